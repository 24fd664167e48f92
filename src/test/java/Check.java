import java.nio.charset.StandardCharsets;
import java.util.Arrays;

/** What all tests use: comparing answers, feeding texts, and looking at a whole object at once. */
final class Check {
    /** So many calls answers() makes; an object is promised 512 in all. */
    static final int ANSWERS = 5 + 5 + 3 * 32;

    private static int wrong = 0;
    private static int looked = 0;

    private Check() {
    }

    static void same(String what, long got, long want) {
        looked++;
        if (got != want) {
            wrong++;
            System.out.println(what + ": answered " + got + ", due is " + want);
        }
    }

    static void same(String what, boolean got, boolean want) {
        same(what, got ? 1 : 0, want ? 1 : 0);
    }

    static void unchanged(String what, ScanChart x, long[] before) {
        same(what + " changes nothing", Arrays.equals(before, answers(x)), true);
    }

    /** All that an object answers without being changed by it. */
    static long[] answers(ScanChart x) {
        long[] all = new long[ANSWERS];
        int k = 0;
        all[k++] = x.fault();
        all[k++] = x.place();
        all[k++] = x.done();
        all[k++] = x.fired();
        all[k++] = x.time();
        for (int kind = 0; kind <= 4; kind++) {
            all[k++] = x.bits(kind);
        }
        for (int i = 0; i < 32; i++) {
            all[k++] = x.word(i);
            all[k++] = x.output(i) ? 1 : 0;
            all[k++] = x.block(i % 8, i / 8);
        }
        return all;
    }

    /** Feeds the text in pieces of eight bytes; answers what the last feed did. */
    static int feed(ScanChart x, String text) {
        byte[] bytes = text.getBytes(StandardCharsets.ISO_8859_1);
        int had = 0;
        for (int i = 0; i < bytes.length; i += 8) {
            int n = Math.min(8, bytes.length - i);
            long piece = 0;
            for (int k = 0; k < n; k++) {
                piece |= (bytes[i + k] & 255L) << 8 * k;
            }
            had = x.feed(n, piece);
        }
        return had;
    }

    /** A new object with that program. */
    static ScanChart loaded(String text) {
        ScanChart x = new ScanChart();
        feed(x, text);
        if (x.load() == ScanChart.NONE) {
            same("load of '" + text + "' met " + x.fault() + " at " + x.place(), x.fault(), 0);
        }
        return x;
    }

    /** Loads another program into an object; all is reset by that. */
    static void reload(ScanChart x, String text) {
        x.wipe();
        feed(x, text);
        same("load of '" + text + "'", x.load() != ScanChart.NONE, true);
    }

    /** Does a scan without a stop and answers W0. */
    static int word0(String text) {
        ScanChart x = loaded(text);
        same("scan of '" + text + "'", x.scan(1), 0);
        return x.word(0);
    }

    static String times(int n, String piece) {
        return piece.repeat(n);
    }

    static void end(String name) {
        System.out.println(name + ": " + looked + " answers looked at, " + wrong + " wrong");
        if (wrong != 0) {
            System.exit(1);
        }
    }
}
