/** What a scan's instructions do (promises 9, 13, 15), timers, counters and edges apart. */
public final class ListTest {
    private static final int MIN = Integer.MIN_VALUE;
    private static final int MAX = Integer.MAX_VALUE;

    public static void main(String[] args) {
        loading();
        storing();
        setting();
        byBits();
        arithmetic();
        comparing();
        brackets();
        jumping();
        jumpingBehindTheLast();
        returning();
        stopByZero();
        stopByLength();
        stopsLastUntilReset();
        allEighty();
        theEightieth();
        Check.end("ListTest");
    }

    private static void result(String text, int due) {
        Check.same(text, Check.word0(text + " ST W0;"), due);
    }

    private static void loading() {
        result("", 0);
        result("LD 5;", 5);
        result("LD -2147483648;", MIN);
        result("LD 2147483647;", MAX);
        result("LD -0;", 0);
        result("LD 007;", 7);
        result("LDN 0;", 1);
        result("LDN 5;", 0);
        result("LDN -5;", 0);
        result("LD -7; ST W31; LD 1; LD W31;", -7);
        result("LD X0;", 1);
        result("LD X1;", 0);
        result("LD 4; ST Q31; LD Q31;", 1);
        result("LD 4; ST M31; LD M31;", 1);
        result("LD 4; NOT;", 0);
        result("NOT;", 1);
        ScanChart x = Check.loaded("LD I31; ST W0; LDN I31; ST W1;");
        x.input(31, true);
        Check.same("W0 before the scan", x.word(0), 0);
        x.scan(0);
        Check.same("W0", x.word(0), 1);
        Check.same("W1", x.word(1), 0);
        ScanChart y = Check.loaded("LD 3; ST W0;");
        y.scan(0);
        Check.reload(y, "ST W0;");
        y.scan(0);
        Check.same("the result is 0 at first", y.word(0), 0);
    }

    private static void storing() {
        ScanChart x = Check.loaded("LD -8; ST Q0; STN Q1; ST M0; STN M1; ST W1; STN W2; "
                + "LD 0; ST Q2; STN Q3; ST M2; STN M3; ST W3; STN W4; STN Q31; STN W31;");
        x.scan(1);
        Check.same("Q", x.bits(1), 1 | 8 | MIN);
        Check.same("M", x.bits(2), 1 | 8);
        Check.same("outputs", x.bits(4), 1 | 8 | MIN);
        Check.same("W1", x.word(1), -8);
        Check.same("W2", x.word(2), 0);
        Check.same("W3", x.word(3), 0);
        Check.same("W4", x.word(4), 1);
        Check.same("W31", x.word(31), 1);
        Check.same("done", x.done(), 16);
        ScanChart y = Check.loaded("LD I0; ST Q5; ST M5; ST W5;");
        y.input(0, true);
        y.scan(1);
        Check.same("Q", y.bits(1), 32);
        y.input(0, false);
        y.scan(1);
        Check.same("Q", y.bits(1), 0);
        Check.same("M", y.bits(2), 0);
        Check.same("W5", y.word(5), 0);
    }

    private static void setting() {
        ScanChart x = Check.loaded("LD I0; S Q1; S M31; LD I1; R Q1; R M31; LD I0; ST W0;");
        x.scan(1);
        Check.same("Q", x.bits(1), 0);
        x.input(0, true);
        x.scan(1);
        Check.same("Q set", x.bits(1), 2);
        Check.same("M set", x.bits(2), MIN);
        x.input(0, false);
        x.scan(1);
        Check.same("Q stays", x.bits(1), 2);
        Check.same("M stays", x.bits(2), MIN);
        x.input(1, true);
        x.scan(1);
        Check.same("Q is reset", x.bits(1), 0);
        Check.same("M is reset", x.bits(2), 0);
        result("LD -3; S Q0; R Q1;", -3);
        ScanChart y = Check.loaded("LD -1; S Q0; S M0; S Q1; LD " + MIN + "; S Q2; R Q1; LD 0; R Q0; S Q3;");
        y.scan(1);
        Check.same("Q with results below 0", y.bits(1), 5);
        Check.same("M with results below 0", y.bits(2), 1);
    }

    private static void byBits() {
        result("LD 12; AND 10;", 8);
        result("LD 12; ANDN 10;", 0);
        result("LD 13; ANDN 0;", 1);
        result("LD 12; ANDN 0;", 0);
        result("LD 12; OR 10;", 14);
        result("LD 12; ORN 10;", 12);
        result("LD 12; ORN 0;", 13);
        result("LD 12; XOR 10;", 6);
        result("LD 13; XORN 10;", 13);
        result("LD 13; XORN 0;", 12);
        result("LD -1; AND -2147483648;", MIN);
        result("LD -1; XOR 2147483647;", MIN);
    }

    private static void arithmetic() {
        result("LD 5; ADD -8;", -3);
        result("LD 2147483647; ADD 1;", MIN);
        result("LD 5; SUB 8;", -3);
        result("LD -2147483648; SUB 1;", MAX);
        result("LD 0; SUB -2147483648;", MIN);
        result("LD -5; MUL 8;", -40);
        result("LD 65536; MUL 65536;", 0);
        result("LD 2147483647; MUL 2147483647;", 1);
        result("LD 7; DIV 2;", 3);
        result("LD -7; DIV 2;", -3);
        result("LD 7; DIV -2;", -3);
        result("LD -2147483648; DIV -1;", MIN);
        result("LD 7; MOD 3;", 1);
        result("LD -7; MOD 3;", -1);
        result("LD 7; MOD -3;", 1);
        result("LD -2147483648; MOD -1;", 0);
        result("LD 0; DIV 5;", 0);
        result("LD 0; MOD 5;", 0);
        result("LD 2147483647; DIV -1;", -MAX);
        result("LD -2147483648; DIV 1;", MIN);
        result("LD -2147483648; MOD 2147483647;", -1);
        result("LD -2147483648; DIV 2147483647;", -1);
        result("LD 2147483647; DIV -2147483648;", 0);
        result("LD 2147483647; MOD -2147483648;", MAX);
        result("LD -2147483648; MUL -1;", MIN);
        result("LD -2147483648; MUL -2147483648;", 0);
        result("LD -2147483648; ADD -2147483648;", 0);
        result("LD -2147483648; ADD -1;", MAX);
        result("LD 2147483647; SUB -1;", MIN);
        result("LD 2147483647; SUB -2147483648;", -1);
        result("LD 2147483647; ADD 2147483647;", -2);
        result("LD -2147483648; SUB(; LD 1; );", MAX);
        result("LD -2147483648; DIV(; LD -1; );", MIN);
        result("LD -2147483648; MOD(; LD -1; );", 0);
    }

    private static void comparing() {
        String[] words = {"GT", "GE", "EQ", "NE", "LE", "LT"};
        int[][] due = {{0, 0, 1}, {0, 1, 1}, {0, 1, 0}, {1, 0, 1}, {1, 1, 0}, {1, 0, 0}};
        for (int k = 0; k < words.length; k++) {
            result("LD -3; " + words[k] + " 4;", due[k][0]);
            result("LD 4; " + words[k] + " 4;", due[k][1]);
            result("LD 5; " + words[k] + " 4;", due[k][2]);
            result("LD -2147483648; " + words[k] + " 2147483647;", due[k][0]);
            result("LD 2147483647; " + words[k] + " -2147483648;", due[k][2]);
        }
    }

    private static void brackets() {
        result("LD 10; SUB(; LD 3; );", 7);
        result("LD 10; SUB(; ADD 3; );", 7);
        result("LD 10; SUB(;);", 10);
        result("LD 10; MUL(;);", 0);
        result("LD 10; DIV(; LD 3; );", 3);
        result("LD 10; MOD(; LD 3; );", 1);
        result("LD 13; AND(; LD 6; );", 4);
        result("LD 13; ANDN(; LD 6; );", 0);
        result("LD 13; ANDN(;);", 1);
        result("LD 12; ORN(;);", 13);
        result("LD 12; ORN(; LD 6;);", 12);
        result("LD 12; OR(; LD 3;);", 15);
        result("LD 13; XOR(; LD 3;);", 14);
        result("LD 13; XORN(;);", 12);
        result("LD 5; GT(; LD 4; );", 1);
        result("LD 5; GE(; LD 6; );", 0);
        result("LD 5; EQ(; LD 5; );", 1);
        result("LD 5; NE(; LD 5; );", 0);
        result("LD 5; LE(; LD 5; );", 1);
        result("LD 5; LT(; LD 5; );", 0);
        result("LD 100; SUB(; LD 50; SUB(; LD 20; SUB(; LD 5; ); ); ); ADD 1;", 66);
        result(Check.times(8, "ADD 1; MUL 2; SUB(;") + "LD 3;" + Check.times(8, ");"), 3);
        // Each of the eight puts another result aside, and with another word.
        result("LD 1; SUB(; LD 2; SUB(; LD 4; SUB(; LD 8; SUB(; LD 16; SUB(; LD 32; SUB(; LD 64; SUB(; LD 128; SUB(; LD 256;"
                + Check.times(8, ");"), 1 - 2 + 4 - 8 + 16 - 32 + 64 - 128 + 256);
        result("LD 3; ADD(; LD 5; MUL(; LD 70; SUB(; LD 900; DIV(; LD 31; MOD(; LD 9; OR(; LD 6; XOR(; LD 15; AND(; LD 10;"
                + Check.times(8, ");"), 3 + 5 * (70 - 900 / (31 % (9 | 6 ^ 15 & 10))));
        result("LD 7; ADD(; LD 2; ST W5; ); ADD(; LD W5; MUL 10; );", 29);
        result("LD 100; SUB(; LD 10; S Q0; R Q0; SUB 3; );", 93);
        ScanChart y = Check.loaded("LD 50; ADD I0; SUB(; LD 9; DIV I0; ); ST W0;");
        for (int k = 0; k < 20; k++) {
            Check.same("a stop inside a bracket", y.scan(1), 2);
            y.reset();
        }
        y.input(0, true);
        Check.same("scan", y.scan(1), 0);
        Check.same("what was put aside before a stop is gone", y.word(0), 42);
        ScanChart x = Check.loaded("LD 10; SUB(; LD 3; ); ST W0;");
        x.scan(1);
        Check.same("each ) counts as an instruction", x.done(), 5);
    }

    private static void jumping() {
        result("LD 1; JMP L0; LD 2; L0:;", 1);
        result("LD 1; JMPC L0; LD 2; L0:;", 1);
        result("LD -1; JMPC L0; LD 2; L0:;", -1);
        result("LD 0; JMPC L0; LD 2; L0:;", 2);
        result("LD 1; JMPCN L0; LD 2; L0:;", 2);
        result("LD 0; JMPCN L0; LD 2; L0:;", 0);
        result("JMP L1; L0: ADD 1; JMP L2; L1: LD 5; JMP L0; L2: MUL 2;", 12);
        ScanChart x = Check.loaded("LD 4; ST W0; JMP L3; LD 5; ST W0; L3:;;");
        x.scan(1);
        Check.same("a jump behind the last one ends the list", x.word(0), 4);
        Check.same("done", x.done(), 3);
        ScanChart y = Check.loaded("LD 4; JMP L3; LD 5; L3: STEP 0 N Q7; ; ST W0;");
        y.scan(1);
        Check.same("a label before STEP leads to the next instruction", y.word(0), 4);
        Check.same("the chart goes on behind a jump", y.bits(4), 128);
        result("STEP 0; GO 0 TO 0; LD 5; JMP L4; GO 0 TO 0; LD 6; STEP 1; GO 1 TO 1; L4: ADD 1; MUL 2;", 12);
        result("JMP L4; LD 1; L4:; GO 0 TO 0; L5:; STEP 0; L6: GO 0 TO 0; ADD 3; JMP L7; ADD 4; L7:;", 3);
    }

    /** "On from the label (behind the last one: the list ends)", with each jump and at each end of a text. */
    private static void jumpingBehindTheLast() {
        String[] ends = {"L31:;", "L31: ;", "L31:;;;", "L31: STEP 0 N Q3;", "L31: STEP 0 N Q3; GO 0 TO 0;", "STEP 0 N Q3; L31:;"};
        String[] jumps = {"LD 5; ST W0; JMP L31;", "LD 5; ST W0; JMPC L31;", "LD 5; ST W0; LD 0; JMPCN L31;"};
        for (String end : ends) {
            for (String jump : jumps) {
                ScanChart x = Check.loaded(jump + "LD 6; ST W0; LD 1; DIV 0;" + end);
                Check.same(jump + end, x.scan(1), 0);
                Check.same(jump + end, x.word(0), 5);
                Check.same(jump + end, x.done(), jump.contains("CN") ? 4 : 3);
                Check.same(jump + end, x.output(3), end.contains("N Q3"));
                Check.same(jump + end, x.fired(), end.contains("GO") ? 1 : 0);
            }
        }
        // One that leads to the last instruction doesn't end the list yet.
        result("LD 5; JMP L31; LD 6; L31:;", 5);
        ScanChart y = Check.loaded("LD 5; JMP L31; LD 6; L31: ST W0;");
        y.scan(1);
        Check.same("W0", y.word(0), 5);
        Check.same("done", y.done(), 3);
        ScanChart z = Check.loaded("LD 5; JMP L0; L0:;");
        Check.same("scan", z.scan(1), 0);
        Check.same("done", z.done(), 2);
    }

    private static void returning() {
        String[] words = {"RET", "RETC", "RETCN"};
        int[] ofZero = {1, 0, 1};
        int[] ofOne = {1, 1, 0};
        for (int k = 0; k < words.length; k++) {
            for (int value = 0; value <= 1; value++) {
                ScanChart x = Check.loaded("LD " + value + "; " + words[k] + "; LD 9; ST W0; STEP 0 N Q0;");
                Check.same("scan", x.scan(1), 0);
                boolean ended = (value == 0 ? ofZero[k] : ofOne[k]) == 1;
                Check.same(words[k] + " with " + value, x.word(0), ended ? 0 : 9);
                Check.same("done", x.done(), ended ? 2 : 4);
                Check.same("the chart goes on", x.output(0), true);
            }
        }
    }

    private static void stopByZero() {
        String[] words = {"DIV 0", "MOD 0", "DIV W9", "DIV -0", "MOD X9", "DIV(;)", "MOD(; LD W9; )", "DIV TE0"};
        int[] before = {4, 4, 4, 4, 4, 5, 6, 4};
        for (int k = 0; k < words.length; k++) {
            ScanChart x = Check.loaded("STEP 0 N Q5; STEP 1; GO 0 TO 1 IF I9; "
                    + "LD 7; ST Q3; ADD W0; ST W0; " + words[k] + "; ST W1;");
            x.input(9, true);
            Check.same(words[k], x.scan(5), 2);
            Check.same("done", x.done(), before[k]);
            Check.same("fired", x.fired(), 0);
            Check.same("what was done stays", x.word(0), 7);
            Check.same("Q as it is", x.bits(1), 8);
            Check.same("outputs stay", x.bits(4), 0);
            Check.same("the chart stays", x.bits(3), 1);
            Check.same("I are taken over", x.bits(0), 512);
            Check.same("time", x.time(), 5);
            stoppedStays(x);
            x.reset();
            Check.same(words[k] + " again", x.scan(1), 2);
        }
    }

    private static void stoppedStays(ScanChart x) {
        x.input(8, true);
        long[] was = Check.answers(x);
        Check.same("scan when stopped", x.scan(5), -1);
        Check.unchanged("scan when stopped", x, was);
        Check.same("run when stopped", x.run(5, 5), 0);
        Check.unchanged("run when stopped", x, was);
    }

    private static void stopByLength() {
        ScanChart x = Check.loaded("L0: LD W0; ADD 1; ST W0; STEP 0 N Q0; JMP L0;");
        Check.same("scan", x.scan(3), 3);
        Check.same("done", x.done(), 500);
        Check.same("W0", x.word(0), 125);
        Check.same("outputs", x.bits(4), 0);
        Check.same("time", x.time(), 3);
        stoppedStays(x);
        // 3 before the loop and 4 in each of 124 rounds: one more may be done.
        exactly("LD 124; ST W1; NOT; L0: LD W1; SUB 1; ST W1; JMPC L0; LD 1;", 0, 500);
        exactly("LD 124; ST W1; NOT; L0: LD W1; SUB 1; ST W1; JMPC L0; LD 1; LD 1;", 3, 500);
        exactly("LD 124; ST W1; NOT; L0: LD W1; SUB 1; ST W1; JMPC L0; LD 1; DIV 0;", 3, 500);
        exactly("LD 124; ST W1; NOT; L0: LD W1; SUB 1; ST W1; JMPC L0; DIV 0;", 2, 499);
        exactly("LD 124; ST W1; NOT; L0: LD W1; SUB 1; ST W1; JMPC L0; RET; LD 1;", 0, 500);
        exactly("LD 124; ST W1; NOT; L0: LD W1; SUB 1; ST W1; JMPC L0; JMP L1; LD 1; L1:;", 0, 500);
        exactly("LD 124; ST W1; NOT; L0: LD W1; SUB 1; ST W1; JMPC L0; JMP L1; L1: LD 1;", 3, 500);
        exactly("L7: ; L8: JMP L7;", 3, 500);
    }

    /** "With a STOP the scan ends there: chart and outputs stay, and no more scans are done until reset()", or a load. */
    private static void stopsLastUntilReset() {
        String[] ways = {"DIV I9;", "MOD I9;", "JMPCN L0; LD 1; DIV(; LD I9; );", "LDN I9; JMPCN L1; L0: JMP L0; L1:;"};
        int[] answers = {2, 2, 2, 3};
        for (int k = 0; k < ways.length; k++) {
            String labels = ways[k].contains("L0:") ? "" : "L0:;";
            ScanChart x = Check.loaded("LD W1; ADD 1; ST W1; ST Q2; TON T0 3; CTU C0 1; LD 7; " + ways[k] + labels
                    + "STEP 0 N Q0; STEP 1 S Q1; GO 0 TO 1 IF I5;");
            x.input(9, true);
            Check.same("scan", x.scan(4), 0);
            Check.same("outputs", x.bits(4), 1 | 4);
            x.input(9, false);
            x.input(5, true);
            Check.same(ways[k], x.scan(4), answers[k]);
            Check.same("outputs stay", x.bits(4), 1 | 4);
            Check.same("the chart stays", x.bits(3), 1);
            Check.same("what the list did stays", x.word(1), 2);
            Check.same("what the list did stays", x.block(0, 1), 3);
            Check.same("fired", x.fired(), 0);
            Check.same("time", x.time(), 8);
            int done = x.done();
            // Neither inputs, nor questions, nor the text undo the stop.
            x.input(9, true);
            x.wipe();
            Check.feed(x, "LD 1;");
            Check.same("scan", x.scan(4), -1);
            Check.same("run", x.run(3, 4), 0);
            Check.same("run of none", x.run(0, 4), 0);
            Check.same("scan", x.scan(0), -1);
            Check.same("done", x.done(), done);
            Check.same("W1", x.word(1), 2);
            Check.same("time", x.time(), 8);
            Check.same("I", x.bits(0), 1 << 5);
            x.reset();
            Check.same("scan behind a reset", x.scan(4), 0);
            Check.same("W1", x.word(1), 1);
            Check.same("time", x.time(), 4);
            Check.same("X", x.bits(3), 2);
            Check.same("outputs", x.bits(4), 2 | 4);
            Check.same("fired", x.fired(), 1);
            x.input(9, false);
            Check.same("a run up to the stop", x.run(100, 1), 0);
            Check.same("scan", x.scan(1), -1);
            Check.same("load", x.load(), 1);
            Check.same("scan behind a load", x.scan(1), 0);
            Check.same("done", x.done(), 1);
        }
    }

    /** Eighty instructions, sixteen GO's and all steps in one text; each counts, and a hundred scans of them. */
    private static void allEighty() {
        StringBuilder text = new StringBuilder("LD W0;");
        for (int k = 0; k < 78; k++) {
            text.append("NOT;");
        }
        text.append("ST W0;");
        for (int k = 0; k < 16; k++) {
            text.append("STEP ").append(k).append(';').append("GO 0 TO ").append(15 - k).append(';');
        }
        ScanChart x = Check.loaded(text.toString());
        Check.same("load", x.load(), 80);
        Check.same("scan", x.scan(0), 0);
        Check.same("done", x.done(), 80);
        Check.same("fired", x.fired(), 1);
        Check.same("X", x.bits(3), 1 << 15);
        Check.same("run", x.run(100, 0), 100);
        Check.same("done", x.done(), 80);
        ScanChart y = Check.loaded("LD W0;" + Check.times(78, "ADD 1;") + "ST W0;");
        Check.same("run", y.run(100, 0), 100);
        Check.same("W0", y.word(0), 7800);
    }

    /** The eightieth instruction is done like all others, with its cell and its number. */
    private static void theEightieth() {
        String before = "STEP 0 N Q0;L1: LD W1;ADD 1;ST W1;" + Check.times(75, "NOT;") + "LD W1;";
        ScanChart x = eighty(before + "ST W31;");
        x.scan(1);
        Check.same("ST W31", x.word(31), 1);
        Check.same("done", x.done(), 80);
        x = eighty(before + "S M31;");
        x.scan(1);
        Check.same("S M31", x.bits(2), Integer.MIN_VALUE);
        x = eighty(before + "TON T7 1000000;");
        x.scan(1);
        x.scan(1000000);
        Check.same("T7", x.block(7, 0), 1);
        Check.same("TE7", x.block(7, 1), 1000000);
        x = eighty(before + "TP T7 9;");
        x.scan(1);
        Check.same("T7", x.block(7, 0), 1);
        x.scan(9);
        Check.same("T7", x.block(7, 0), 0);
        Check.same("TE7", x.block(7, 1), 9);
        x = eighty(before + "CTU C7 2;");
        x.scan(1);
        Check.same("C7", x.block(7, 2), 0);
        Check.same("CV7", x.block(7, 3), 1);
        x = eighty(before + "JMPC L1;");
        Check.same("JMPC back", x.scan(1), 3);
        x = eighty(before + "JMPCN L1;");
        Check.same("JMPCN, not taken", x.scan(1), 0);
        x = eighty(before + "DIV W31;");
        Check.same("DIV by 0", x.scan(1), 2);
        Check.same("done", x.done(), 79);
        Check.same("outputs", x.bits(4), 0);
        x = eighty(before + "DIV -1;");
        Check.same("DIV", x.scan(1), 0);
        Check.same("outputs", x.bits(4), 1);
    }

    private static ScanChart eighty(String text) {
        ScanChart x = Check.loaded(text);
        Check.same("load '" + text + "'", x.load(), 80);
        return x;
    }

    private static void exactly(String text, int answer, int done) {
        ScanChart x = Check.loaded(text);
        Check.same(text, x.scan(1), answer);
        Check.same(text + " done", x.done(), done);
    }
}
