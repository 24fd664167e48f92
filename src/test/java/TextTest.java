/** Promises 2 (feed) and 3 (wipe). */
public final class TextTest {
    public static void main(String[] args) {
        lowestBytesFirst();
        onlySoManyBytes();
        upTo700();
        wipeEmpties();
        feedLeavesTheProgram();
        Check.end("TextTest");
    }

    private static void lowestBytesFirst() {
        ScanChart x = new ScanChart();
        // "LD 5;ST " and "W0;": the first sign in the lowest byte.
        Check.same("feed 8", x.feed(8, 0x205453_3b35_20_444cL), 8);
        Check.same("feed 3", x.feed(3, 0x3b_30_57L), 11);
        Check.same("load", x.load(), 2);
        x.scan(1);
        Check.same("W0", x.word(0), 5);
    }

    private static void onlySoManyBytes() {
        ScanChart x = new ScanChart();
        // What stands above the n lowest bytes doesn't count.
        Check.same("feed 1", x.feed(1, 0x7f7f7f7f7f7f7f3bL), 1);
        Check.same("load", x.load(), 0);
        for (int n = 1; n <= 8; n++) {
            x.wipe();
            Check.same("feed " + n, x.feed(n, -1L), n);
            Check.same("feed " + n + " again", x.feed(n, 0L), 2 * n);
            Check.same("load", x.load(), -1);
            Check.same("fault", x.fault(), 1);
            Check.same("place", x.place(), 0);
        }
    }

    private static void upTo700() {
        ScanChart x = new ScanChart();
        for (int k = 1; k <= 87; k++) {
            Check.same("feed", x.feed(8, 0x3b3b3b3b3b3b3b3bL), 8 * k);
        }
        Check.same("feed beyond", x.feed(5, -1L), -1);
        Check.same("feed beyond", x.feed(8, -1L), -1);
        Check.same("feed up to 700", x.feed(4, 0x3b3b3b3bL), 700);
        Check.same("feed beyond", x.feed(1, -1L), -1);
        Check.same("load", x.load(), 0);
        Check.same("wipe", x.wipe(), 700);
        Check.same("feed", x.feed(1, 0), 1);
    }

    private static void wipeEmpties() {
        ScanChart x = new ScanChart();
        Check.feed(x, "nonsense");
        Check.same("load", x.load(), -1);
        Check.same("feed", x.feed(1, 'N'), 9);
        Check.same("fault stays behind a feed", x.fault(), 1);
        Check.same("place stays behind a feed", x.place(), 0);
        x.scan(1);
        x.run(2, 1);
        Check.same("fault stays behind scans", x.fault(), 1);
        Check.same("place stays behind scans", x.place(), 0);
        Check.same("wipe", x.wipe(), 9);
        Check.same("fault stays behind a wipe", x.fault(), 1);
        Check.same("place stays behind a wipe", x.place(), 0);
        Check.same("wipe", x.wipe(), 0);
        Check.same("load", x.load(), 0);
        Check.same("fault", x.fault(), 0);
        Check.same("place", x.place(), -1);
        Check.feed(x, "LD 1;");
        Check.same("load", x.load(), 1);
    }

    private static void feedLeavesTheProgram() {
        ScanChart x = Check.loaded("LD 1; ADD W0; ST W0;");
        x.scan(3);
        long[] before = Check.answers(x);
        Check.feed(x, "rubbish");
        Check.unchanged("feed", x, before);
        x.wipe();
        Check.unchanged("wipe", x, before);
        Check.same("scan", x.scan(1), 0);
        Check.same("W0", x.word(0), 2);
        Check.same("done", x.done(), 3);
    }
}
