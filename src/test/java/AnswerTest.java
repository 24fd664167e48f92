/** Promises 7 to 17 call by call: what they answer, their edges, and wrong inputs. */
public final class AnswerTest {
    private static final String TEXT = "LD I0; ST Q0; ST M1; LD W0; ADD 1; ST W0; ST W31; TON T7 50; LD I0; CTU C7 1; "
            + "STEP 0 N Q31; STEP 1 S M31; GO 0 TO 1 IF I5; LD 9; DIV I9;";

    public static void main(String[] args) {
        resets();
        resetForgetsTheLastScan();
        inputs();
        scansWithTicks();
        runs();
        runsUpToAStop();
        outputsAreGivenOutLast();
        kindsOfBits();
        words();
        blocks();
        doneAndFired();
        times();
        Check.end("AnswerTest");
    }

    private static ScanChart busy() {
        ScanChart x = Check.loaded(TEXT);
        x.input(0, true);
        x.input(5, true);
        x.input(9, true);
        Check.same("scan", x.scan(7), 0);
        Check.same("scan", x.scan(8), 0);
        return x;
    }

    private static void resets() {
        ScanChart x = busy();
        long[] fresh = Check.answers(new ScanChart());
        x.reset();
        Check.unchanged("a reset makes all as new: it", x, fresh);
        Check.same("scan", x.scan(1), 0);
        Check.same("inputs stay", x.bits(0), 1 | 32 | 512);
        Check.same("the program stays", x.word(0), 1);
        ScanChart y = Check.loaded("STEP 0; STEP 1; GO 0 TO 1;");
        y.scan(1);
        y.reset();
        Check.same("X", y.bits(3), 1);
        Check.same("fault stays", y.fault(), 0);
        Check.feed(y, "x");
        y.load();
        y.reset();
        Check.same("fault stays", y.fault(), 1);
        Check.same("place stays", y.place(), 26);
        Check.same("the text stays", y.wipe(), 27);
        ScanChart z = Check.loaded("LD 1; DIV I0;");
        z.scan(1);
        z.reset();
        z.input(0, true);
        Check.same("a reset undoes the stop", z.scan(1), 0);
    }

    /** Behind a reset no scan has been done: all answers are those of a new object, also done() and fired(). */
    private static void resetForgetsTheLastScan() {
        long[] fresh = Check.answers(new ScanChart());
        String[] texts = {"LD 1; ST Q0; STEP 0 S M1; STEP 1 N Q2; GO 0 TO 1;", "STEP 0; GO 0 TO 0;", "LD 1; DIV 0;",
            "L0: JMP L0;", "LD 1; TON T0 0; CTU C0 0; ST W3;"};
        for (String text : texts) {
            for (int k = 0; k < 3; k++) {
                ScanChart x = Check.loaded(text);
                x.run(k, 2);
                x.reset();
                int answer = x.scan(3);
                int done = x.done();
                int fired = x.fired();
                Check.same("a scan of '" + text + "' can be seen", done + fired > 0, true);
                x.reset();
                Check.unchanged("a reset makes '" + text + "' as new: it", x, fresh);
                x.run(0, 3);
                Check.unchanged("a run of none behind a reset of '" + text + "'", x, fresh);
                Check.same("the first scan of '" + text + "' again", x.scan(3), answer);
                Check.same("done", x.done(), done);
                Check.same("fired", x.fired(), fired);
                x.run(5, 3);
                x.reset();
                Check.unchanged("a reset behind a run of '" + text + "'", x, fresh);
            }
        }
    }

    private static void inputs() {
        ScanChart x = new ScanChart();
        for (int i = 0; i < 32; i++) {
            x.input(i, true);
            Check.same("I before a scan", x.bits(0), i == 0 ? 0 : (1 << i) - 1);
            x.scan(0);
            Check.same("I", x.bits(0), i == 31 ? -1 : (1 << i + 1) - 1);
        }
        x.input(31, false);
        x.input(4, false);
        x.input(4, true);
        x.scan(0);
        Check.same("I", x.bits(0), Integer.MAX_VALUE);
    }

    private static void scansWithTicks() {
        ScanChart x = busy();
        Check.same("scan 0", x.scan(0), 0);
        Check.same("time", x.time(), 15);
        Check.same("scan 1000000", x.scan(1000000), 0);
        Check.same("time", x.time(), 1000015);
        Check.same("scan", x.scan(1), 0);
        Check.same("W0", x.word(0), 5);
    }

    private static void runs() {
        ScanChart x = busy();
        long[] before = Check.answers(x);
        Check.same("run 0", x.run(0, 1000000), 0);
        Check.unchanged("a run of none", x, before);
        Check.same("run 1", x.run(1, 3), 1);
        Check.same("W0", x.word(0), 3);
        Check.same("time", x.time(), 18);
        Check.same("run 100", x.run(100, 1000000), 100);
        Check.same("W0", x.word(0), 103);
        Check.same("time", x.time(), 100000018L);
        ScanChart y = Check.loaded("LD W0; ADD 1; ST W0; TON T0 30; ST Q0; LD X1; ST M0; STEP 0; STEP 1; GO 0 TO 1; GO 1 TO 0;");
        Check.same("run", y.run(4, 10), 4);
        Check.same("TE0", y.block(0, 1), 30);
        Check.same("Q0", y.output(0), true);
        Check.same("X", y.bits(3), 1);
        Check.same("M0", y.bits(2), 1);
        Check.same("done", y.done(), 7);
        Check.same("fired", y.fired(), 1);
    }

    private static void runsUpToAStop() {
        ScanChart x = Check.loaded("LD W0; ADD 1; ST W0; ST Q0; SUB 5; ST W1; LD 1; DIV W1; STEP 0; GO 0 TO 0;");
        Check.same("run", x.run(100, 2), 4);
        Check.same("W0", x.word(0), 5);
        Check.same("time", x.time(), 10);
        Check.same("done", x.done(), 7);
        Check.same("fired", x.fired(), 0);
        Check.same("run", x.run(100, 2), 0);
        Check.same("time", x.time(), 10);
        Check.same("scan", x.scan(2), -1);
        x.reset();
        Check.same("run", x.run(4, 2), 4);
        Check.same("done", x.done(), 8);
        Check.same("scan", x.scan(2), 2);
    }

    private static void outputsAreGivenOutLast() {
        ScanChart x = Check.loaded("LD I0; ST Q0; STN Q31; LD 1; DIV I1;");
        x.input(1, true);
        x.scan(1);
        Check.same("output 0", x.output(0), false);
        Check.same("output 31", x.output(31), true);
        Check.same("output 30", x.output(30), false);
        x.input(0, true);
        Check.same("output 0", x.output(0), false);
        x.scan(1);
        Check.same("output 0", x.output(0), true);
        Check.same("output 31", x.output(31), false);
        x.input(0, false);
        x.input(1, false);
        Check.same("scan", x.scan(1), 2);
        Check.same("output 0 stays with a stop", x.output(0), true);
        Check.same("output 31 stays with a stop", x.output(31), false);
        Check.same("Q as they are", x.bits(1), Integer.MIN_VALUE);
        Check.same("outputs", x.bits(4), 1);
    }

    private static void kindsOfBits() {
        ScanChart x = busy();
        Check.same("I", x.bits(0), 1 | 32 | 512);
        Check.same("Q", x.bits(1), 1);
        Check.same("M", x.bits(2), 2 | Integer.MIN_VALUE);
        Check.same("X", x.bits(3), 2);
        Check.same("outputs", x.bits(4), 1);
    }

    private static void words() {
        ScanChart x = busy();
        Check.same("W0", x.word(0), 2);
        Check.same("W31", x.word(31), 2);
        Check.same("W1", x.word(1), 0);
    }

    private static void blocks() {
        ScanChart x = busy();
        Check.same("T7", x.block(7, 0), 0);
        Check.same("TE7", x.block(7, 1), 8);
        Check.same("C7", x.block(7, 2), 1);
        Check.same("CV7", x.block(7, 3), 1);
        Check.same("CV0", x.block(0, 3), 0);
        x.scan(42);
        Check.same("T7", x.block(7, 0), 1);
        Check.same("TE7", x.block(7, 1), 50);
    }

    private static void doneAndFired() {
        ScanChart x = busy();
        Check.same("done", x.done(), 12);
        Check.same("fired", x.fired(), 0);
        x.input(9, false);
        Check.same("scan", x.scan(1), 2);
        Check.same("done", x.done(), 11);
        Check.same("fired", x.fired(), 0);
        ScanChart y = Check.loaded("LD 1; STEP 0; GO 0 TO 0;");
        Check.same("done before a scan", y.done(), 0);
        Check.same("fired before a scan", y.fired(), 0);
        y.scan(1);
        Check.same("done", y.done(), 1);
        Check.same("fired", y.fired(), 1);
        Check.reload(y, "");
        Check.same("done behind a load", y.done(), 0);
        Check.same("fired behind a load", y.fired(), 0);
        y.scan(1);
        Check.same("done", y.done(), 0);
        Check.same("fired", y.fired(), 0);
    }

    private static void times() {
        ScanChart x = Check.loaded("LD I0; TON T0 1000000; TOF T1 1000000; TP T2 1000000;");
        x.input(0, true);
        for (int k = 0; k < 30; k++) {
            x.run(100, 1000000);
        }
        // Beyond what an int holds.
        Check.same("time", x.time(), 3000000000L);
        Check.same("T0", x.block(0, 0), 1);
        Check.same("TE0", x.block(0, 1), 1000000);
        x.input(0, false);
        x.scan(1);
        x.input(0, true);
        x.scan(0);
        x.scan(3);
        Check.same("TE0", x.block(0, 1), 3);
        Check.same("time", x.time(), 3000000004L);
        x.reset();
        Check.same("time", x.time(), 0);
    }
}
