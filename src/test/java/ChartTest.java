/** The chart of steps (promises 9 and 16): GO's, actions, and what the outputs are then. */
public final class ChartTest {
    public static void main(String[] args) {
        oneAfterTheOther();
        conditions();
        conditionsThen();
        leftOnlyOnce();
        joinsAndForks();
        toldTwice();
        actionsN();
        actionsSAndR();
        actionsAndTheList();
        firedCounts();
        allFire();
        theSixteenthGo();
        Check.end("ChartTest");
    }

    private static void scans(ScanChart x, int steps, int fired) {
        Check.same("scan", x.scan(1), 0);
        Check.same("X at " + x.time(), x.bits(3), steps);
        Check.same("fired at " + x.time(), x.fired(), fired);
    }

    private static void oneAfterTheOther() {
        ScanChart x = Check.loaded("STEP 0; STEP 7; STEP 15; GO 0 TO 7; GO 7 TO 15; GO 15 TO 0;");
        scans(x, 1 << 7, 1);
        scans(x, 1 << 15, 1);
        scans(x, 1, 1);
        ScanChart y = Check.loaded("STEP 1; STEP 2; GO 1 TO 2;");
        scans(y, 1, 0);
        scans(y, 1, 0);
    }

    private static void conditions() {
        String[] operands = {"5", "-1", "0", "I0", "I1", "Q0", "Q1", "M0", "W0", "W1", "T0", "TE0", "C0", "CV0", "X0",
            "X1", "TE1"};
        int[] due = {1, 1, 0, 1, 0, 1, 0, 1, 1, 0, 0, 0, 1, 1, 1, 0, 0};
        for (int k = 0; k < operands.length; k++) {
            for (int n = 0; n <= 1; n++) {
                String text = "STEP 0; STEP 1; GO 0 TO 1 " + (n == 0 ? "IF " : "IFN ") + operands[k] + ";"
                        + "LD 2; ST Q0; ST M0; ST W0; TON T0 5; LD 1; CTU C0 1;";
                ScanChart x = Check.loaded(text);
                x.input(0, true);
                x.scan(1);
                Check.same(text, x.bits(3), due[k] == 1 - n ? 2 : 1);
            }
        }
    }

    private static void conditionsThen() {
        // A step left before in this scan is 0 then, one entered is not 1 yet, and one's own is still active.
        ScanChart x = Check.loaded("STEP 0; STEP 1; STEP 2; STEP 3; STEP 4; GO 0 TO 1 2; "
                + "GO 1 TO 3; GO 2 TO 4 IF X1;");
        scans(x, 6, 1);
        scans(x, 4 | 8, 1);
        ScanChart y = Check.loaded("STEP 0; STEP 1; STEP 2; STEP 3; STEP 4; GO 0 TO 1 2; "
                + "GO 1 TO 3; GO 2 TO 4 IFN X1;");
        scans(y, 6, 1);
        scans(y, 8 | 16, 2);
        ScanChart z = Check.loaded("STEP 0; STEP 1; STEP 2; STEP 3; GO 0 TO 1 2; GO 1 TO 3; GO 2 TO 0 IFN X3;");
        scans(z, 6, 1);
        scans(z, 8 | 1, 2);
        ScanChart own = Check.loaded("STEP 0; STEP 1; GO 0 TO 1 IF X0; GO 1 TO 0 IFN X0;");
        scans(own, 2, 1);
        scans(own, 1, 1);
    }

    private static void leftOnlyOnce() {
        ScanChart x = Check.loaded("STEP 0; STEP 1; STEP 2; GO 0 TO 1; GO 0 TO 2;");
        scans(x, 2, 1);
        // A step left and entered by the first is active in the end, but was left.
        ScanChart y = Check.loaded("STEP 0; STEP 1; STEP 2; GO 0 TO 0 1; GO 0 TO 2;");
        scans(y, 3, 1);
        scans(y, 3, 1);
        ScanChart z = Check.loaded("STEP 0; STEP 1; STEP 2; GO 0 TO 2 IF I0; GO 0 TO 1;");
        scans(z, 2, 1);
        ScanChart w = Check.loaded("STEP 0; STEP 1; STEP 2; STEP 3; GO 0 TO 1 2; GO 1 TO 3; GO 1 2 TO 0; GO 2 TO 2;");
        scans(w, 6, 1);
        scans(w, 8 | 4, 2);
    }

    private static void joinsAndForks() {
        ScanChart x = Check.loaded("STEP 0; STEP 1; STEP 2; STEP 3; STEP 4; GO 0 TO 1 2 3; GO 1 TO 4 IF I1; "
                + "GO 2 3 4 TO 0;");
        scans(x, 14, 1);
        scans(x, 14, 0);
        x.input(1, true);
        scans(x, 4 | 8 | 16, 1);
        scans(x, 1, 1);
        scans(x, 14, 1);
        // Entering an active step keeps it active once.
        ScanChart y = Check.loaded("STEP 0; STEP 1; STEP 2; GO 0 TO 1 2; GO 1 TO 2; GO 2 TO 0 IF I0;");
        scans(y, 6, 1);
        scans(y, 4, 1);
        y.input(0, true);
        scans(y, 1, 1);
    }

    private static void toldTwice() {
        ScanChart x = Check.loaded("STEP 0; STEP 1; GO 0 0 00 TO 1 1 0;");
        scans(x, 3, 1);
        scans(x, 3, 1);
        ScanChart y = Check.loaded("STEP 0; GO 0 TO 0;");
        scans(y, 1, 1);
        scans(y, 1, 1);
    }

    private static void actionsN() {
        ScanChart x = Check.loaded("STEP 0 N Q0 N M31 N Q1; STEP 1 N Q1; STEP 2 N M0; GO 0 TO 1 2; GO 1 2 TO 0;");
        x.scan(1);
        Check.same("Q", x.bits(1), 2);
        Check.same("M", x.bits(2), 1);
        Check.same("outputs", x.bits(4), 2);
        x.scan(1);
        Check.same("Q", x.bits(1), 3);
        Check.same("M", x.bits(2), Integer.MIN_VALUE);
        Check.same("outputs", x.bits(4), 3);
        // Also bits that only a step tells which is never active.
        ScanChart y = Check.loaded("LD 1; ST Q5; ST M5; ST Q6; STEP 9 N Q5 N M5;");
        y.scan(1);
        Check.same("Q", y.bits(1), 64);
        Check.same("M", y.bits(2), 0);
        Check.same("outputs", y.bits(4), 64);
    }

    private static void actionsSAndR() {
        ScanChart x = Check.loaded("STEP 0; STEP 1 S Q0 S M0; STEP 2 R Q0; STEP 3 R M0; "
                + "GO 0 TO 1; GO 1 TO 2; GO 2 TO 3; GO 3 TO 0;");
        int[] q = {1, 0, 0, 0, 1};
        int[] m = {1, 1, 0, 0, 1};
        for (int k = 0; k < q.length; k++) {
            x.scan(1);
            Check.same("Q at " + k, x.bits(1), q[k]);
            Check.same("M at " + k, x.bits(2), m[k]);
            Check.same("outputs at " + k, x.bits(4), q[k]);
        }
        // Steps by their numbers, not by their places; actions in their order; N before them all.
        ScanChart y = Check.loaded("STEP 2 S Q1 R Q2; STEP 1 R Q1 S Q2 S Q4; STEP 0 S Q3 R Q3 N Q4; "
                + "STEP 3 R Q4 N Q4; GO 0 TO 1 2 0;");
        y.scan(1);
        Check.same("Q", y.bits(1), 2 | 16);
        ScanChart z = Check.loaded("STEP 0 R Q0 N Q0 S Q1;");
        z.scan(1);
        Check.same("R comes behind N", z.bits(1), 2);
        ScanChart w = Check.loaded("STEP 0 R Q0 S Q0; STEP 1 N Q0;");
        w.scan(1);
        Check.same("S behind R", w.bits(1), 1);
    }

    private static void actionsAndTheList() {
        // The list sees Q as the chart left it in the scan before; the chart works on what the list stored.
        ScanChart x = Check.loaded("LD Q0; ST Q1; LD I0; ST Q0; STEP 0 N Q0;");
        x.scan(1);
        Check.same("outputs", x.bits(4), 1);
        x.scan(1);
        Check.same("outputs", x.bits(4), 3);
        ScanChart y = Check.loaded("STEP 0 R Q7; LD 1; ST Q7; LD X0; ST W0; STEP 1; GO 0 TO 1 IF Q7; LD X1; ST W1;");
        y.scan(1);
        Check.same("Q7 of the list made the GO fire", y.bits(3), 2);
        Check.same("the list saw X0", y.word(0), 1);
        Check.same("the list didn't see X1", y.word(1), 0);
        Check.same("step 0 is left, so Q7 stays", y.output(7), true);
        // S and R are done in each scan, not only when a step has just become active.
        ScanChart z = Check.loaded("LD 1; ST Q1; R Q0; STEP 0; STEP 4 S Q0 R Q1 N Q2; GO 0 TO 4;");
        for (int k = 1; k <= 3; k++) {
            z.scan(1);
            Check.same("X at " + k, z.bits(3), 16);
            Check.same("Q at " + k, z.bits(1), 5);
            Check.same("outputs at " + k, z.bits(4), 5);
        }
    }

    /** Sixteen GO's at once, and what three names on each side do, told once, twice, three times, and on both sides. */
    private static void allFire() {
        StringBuilder text = new StringBuilder();
        for (int k = 0; k < 16; k++) {
            text.append("STEP ").append(k).append(';');
        }
        for (int k = 0; k < 8; k++) {
            text.append("GO ").append(k).append(" TO ").append(k).append(' ').append(2 * k + 1).append(' ')
                    .append(Math.min(15, 2 * k + 2)).append(';');
        }
        for (int k = 8; k < 16; k++) {
            text.append("GO ").append(k).append(" TO ").append(k).append(" IFN I0;");
        }
        ScanChart x = Check.loaded(text.toString());
        int[] fired = {1, 3, 7, 15, 16, 16};
        int[] steps = {7, 0x7f, 0x7fff, 0xffff, 0xffff, 0xffff};
        for (int k = 0; k < fired.length; k++) {
            scans(x, steps[k], fired[k]);
        }
        x.input(0, true);
        scans(x, 0xffff, 8);
        String head = "STEP 0;STEP 1;STEP 2;STEP 3;";
        String[] goes = {"GO 0 TO 1", "GO 0 0 TO 1", "GO 0 0 0 TO 1 1", "GO 0 TO 1 1 1", "GO 0 TO 0", "GO 0 TO 0 0 0",
            "GO 0 0 TO 0 1", "GO 0 TO 1 0 1", "GO 0 TO 1 2 3", "GO 0 1 TO 2", "GO 1 TO 0", "GO 0 1 0 TO 0"};
        int[] due = {2, 2, 2, 2, 1, 1, 3, 3, 14, 1, 1, 1};
        for (int k = 0; k < goes.length; k++) {
            scans(Check.loaded(head + goes[k] + ";"), due[k], k < 9 ? 1 : 0);
            scans(Check.loaded(head + goes[k] + " IF 1;"), due[k], k < 9 ? 1 : 0);
            scans(Check.loaded(head + goes[k] + " IF 0;"), 1, 0);
            scans(Check.loaded(head + goes[k] + " IFN 0;"), due[k], k < 9 ? 1 : 0);
            scans(Check.loaded(head + goes[k] + " IFN -1;"), 1, 0);
        }
        // A step that was left and is active again in the end was left all the same.
        ScanChart y = Check.loaded(head + "GO 0 TO 0 1;GO 0 0 TO 2;GO 0 1 TO 3;GO 1 TO 1;");
        scans(y, 3, 1);
        scans(y, 3, 2);
        // One that is entered by a GO before wasn't active at the scan's begin.
        ScanChart z = Check.loaded(head + "GO 0 TO 1;GO 1 TO 2;GO 0 1 TO 3;GO 2 TO 3;");
        scans(z, 2, 1);
        scans(z, 4, 1);
        scans(z, 8, 1);
        scans(z, 8, 0);
    }

    /** The sixteenth GO is looked at like all others, with its cell and its number. */
    private static void theSixteenthGo() {
        String before = "STEP 0;STEP 15 N Q31;LD W1;ADD 1;ST W1;" + Check.times(15, "GO 15 TO 0;");
        String[] conditions = {"IF I31", "IFN I31", "IF M31", "IFN M31", "IF X15", "IFN X15", "IF -1", "IFN -1", "IF 0", "IFN 0",
            "IF X0", "IF W1", "IFN W1", ""};
        int[] fires = {1, 0, 0, 1, 0, 1, 1, 0, 0, 1, 1, 1, 0, 1};
        for (int k = 0; k < conditions.length; k++) {
            ScanChart x = Check.loaded(before + "GO 0 TO 15 " + conditions[k] + ";");
            x.input(31, true);
            scans(x, fires[k] == 1 ? 1 << 15 : 1, fires[k]);
            Check.same("outputs " + conditions[k], x.bits(4), fires[k] == 1 ? Integer.MIN_VALUE : 0);
        }
    }

    private static void firedCounts() {
        ScanChart x = Check.loaded("STEP 0; STEP 1; STEP 2; GO 0 TO 0 1 2; GO 1 TO 1; GO 2 TO 2; "
                + "LD I0; XOR 1; ST W0; LD 1; DIV W0;");
        scans(x, 7, 1);
        scans(x, 7, 3);
        x.input(0, true);
        Check.same("scan", x.scan(1), 2);
        Check.same("fired with a stop", x.fired(), 0);
        x.reset();
        x.input(0, false);
        scans(x, 7, 1);
        Check.same("run", x.run(0, 1), 0);
        Check.same("fired behind a run of none", x.fired(), 1);
        Check.same("run", x.run(3, 1), 3);
        Check.same("fired", x.fired(), 3);
    }
}
