/**
 * Every cell, edge, label, step and block by its number ("CELLS", "Numbers of cells, edges, labels and
 * steps have one or two figures"): each is apart from the others, the last there is can be told and
 * the first there isn't can't, at each place in a line where its kind can stand.
 */
public final class CellsTest {
    private static final String[] CALCULATIONS = {"AND", "ANDN", "OR", "ORN", "XOR", "XORN", "ADD", "SUB",
        "MUL", "DIV", "MOD", "GT", "GE", "EQ", "NE", "LE", "LT"};

    public static void main(String[] args) {
        everyPlaceOfANumber();
        bitsApart();
        wordsApart();
        timersApart();
        countersApart();
        risesApart();
        fallsApart();
        stepsApart();
        labelsApart();
        oneCellTwoSpellings();
        Check.end("CellsTest");
    }

    // ---- the ranges

    private static void everyPlaceOfANumber() {
        String[] kinds = {"I", "Q", "M", "W", "T", "TE", "C", "CV", "X"};
        int[] ranges = {32, 32, 32, 32, 8, 8, 8, 8, 16};
        for (int k = 0; k < kinds.length; k++) {
            range("LD ", kinds[k], ranges[k], ";");
            range("LDN ", kinds[k], ranges[k], ";");
            for (String word : CALCULATIONS) {
                range(word + " ", kinds[k], ranges[k], ";");
            }
            range("STEP 0;GO 0 TO 0 IF ", kinds[k], ranges[k], ";");
            range("STEP 0;GO 0 TO 0 IFN ", kinds[k], ranges[k], ";");
        }
        for (String kind : new String[] {"Q", "M"}) {
            for (String word : new String[] {"ST ", "STN ", "S ", "R "}) {
                range(word, kind, 32, ";");
            }
            for (String action : new String[] {"N ", "S ", "R "}) {
                range("STEP 0 " + action, kind, 32, ";");
                range("STEP 0 N Q0 " + action, kind, 32, ";");
                range("STEP 0 N Q0 S M0 " + action, kind, 32, ";");
            }
        }
        range("ST ", "W", 32, ";");
        range("STN ", "W", 32, ";");
        for (String word : new String[] {"TON ", "TOF ", "TP "}) {
            range(word, "T", 8, " 1;");
        }
        range("CTU ", "C", 8, " 1;");
        range("CTD ", "C", 8, " 1;");
        range("CLR ", "C", 8, ";");
        range("RISE ", "E", 16, ";");
        range("FALL ", "E", 16, ";");
        range("LD 1;", "L", 32, ":;");
        range("LD 1;", "L", 32, ": LD 1;");
        rangesOfSteps();
        rangesOfJumps();
    }

    /** The first and the last one, with one figure and two; the first that isn't, and some with three figures. */
    private static void range(String before, String kind, int range, String behind) {
        for (String number : new String[] {"0", "00", "7", "07", String.valueOf(range - 1)}) {
            load(before + kind + number + behind, 0, -1);
        }
        for (String number : new String[] {String.valueOf(range), "99", "000", "007", "100", "0000000000", "4294967296"}) {
            load(before + kind + number + behind, 2, before.length());
        }
    }

    private static void load(String text, int fault, int place) {
        ScanChart x = new ScanChart();
        Check.feed(x, text);
        Check.same("load '" + text + "'", x.load() == -1, fault != 0);
        Check.same("fault '" + text + "'", x.fault(), fault);
        Check.same("place '" + text + "'", x.place(), place);
    }

    private static void rangesOfSteps() {
        range("STEP ", "", 16, ";");
        StringBuilder all = new StringBuilder();
        for (int i = 0; i < 16; i++) {
            all.append("STEP ").append(i).append(';');
        }
        String steps = all.toString();
        String[] before = {"GO ", "GO 1 ", "GO 1 2 ", "GO 1 TO ", "GO 1 TO 2 ", "GO 1 TO 2 3 "};
        for (String go : before) {
            range(steps + go, "", 16, go.contains("TO") ? ";" : " TO 1;");
        }
    }

    private static void rangesOfJumps() {
        for (String word : new String[] {"JMP ", "JMPC ", "JMPCN "}) {
            load("L0:;" + word + "L0;", 0, -1);
            load("L0:;" + word + "L00;", 0, -1);
            load("L31:;" + word + "L31;", 0, -1);
            for (String label : new String[] {"L32", "L99", "L000", "L031", "L4294967296"}) {
                load("L0:;" + word + label + ";", 2, 4 + word.length());
            }
        }
    }

    // ---- each one apart from the others

    private static void bitsApart() {
        for (int i = 0; i < 32; i++) {
            int other = 31 - i;
            ScanChart x = Check.loaded("LD I" + i + ";ST Q" + i + ";LD Q" + i + ";ST M" + other + ";LD M" + other + ";ST W0;"
                    + "LD 1;S M" + i + ";R M" + other + ";STN Q" + other + ";");
            x.input(i, true);
            Check.same("scan", x.scan(1), 0);
            String what = "only bit " + i + ": ";
            Check.same(what + "I", x.bits(0), 1 << i);
            Check.same(what + "Q", x.bits(1), 1 << i);
            Check.same(what + "outputs", x.bits(4), 1 << i);
            Check.same(what + "M", x.bits(2), 1 << i);
            Check.same(what + "the result", x.word(0), 1);
            for (int k = 0; k < 32; k++) {
                Check.same(what + "output " + k, x.output(k), k == i);
                x.input(k, k != i);
            }
            x.scan(1);
            what = "all but bit " + i + ": ";
            Check.same(what + "I", x.bits(0), ~(1 << i));
            Check.same(what + "Q", x.bits(1), 0);
            Check.same(what + "the result", x.word(0), 0);
        }
    }

    private static void wordsApart() {
        for (int i = 0; i < 32; i++) {
            int next = (i + 1) % 32;
            ScanChart x = Check.loaded("LD -7;ST W" + i + ";LD 100;ADD W" + i + ";ST W" + next + ";");
            x.scan(1);
            for (int k = 0; k < 32; k++) {
                Check.same("W" + k + " of W" + i, x.word(k), k == i ? -7 : k == next ? 93 : 0);
            }
        }
    }

    private static String forEach(int n, String piece) {
        StringBuilder all = new StringBuilder();
        for (int i = 0; i < n; i++) {
            all.append(piece.replace("#", String.valueOf(i)));
        }
        return all.toString();
    }

    private static void timersApart() {
        for (String word : new String[] {"TON", "TOF", "TP"}) {
            ScanChart x = Check.loaded(forEach(8, "LD I#;" + word + " T# 100;LD TE#;ST W#;LD T#;ST Q#;"));
            boolean off = word.equals("TOF");
            for (int i = 0; i < 8 && off; i++) {
                x.input(i, true);
            }
            x.scan(1);
            // One begins with each tick, the last first.
            for (int i = 7; i >= 0; i--) {
                x.input(i, !off);
                x.scan(1);
            }
            for (int i = 0; i < 8; i++) {
                Check.same(word + ": TE" + i, x.block(i, 1), i);
                Check.same(word + ": TE" + i + " as an operand", x.word(i), i);
                Check.same(word + ": T" + i, x.block(i, 0), off || word.equals("TP") ? 1 : 0);
            }
            x.scan(95);
            for (int i = 0; i < 8; i++) {
                Check.same(word + ": TE" + i, x.block(i, 1), Math.min(100, i + 95));
                boolean due = word.equals("TON") == i >= 5;
                Check.same(word + ": T" + i, x.block(i, 0), due ? 1 : 0);
                Check.same(word + ": T" + i + " as an operand", x.output(i), due);
            }
        }
    }

    private static void countersApart() {
        for (String word : new String[] {"CTU", "CTD"}) {
            ScanChart x = Check.loaded(forEach(8, "LD I#;" + word + " C# 5;LD CV#;ST W#;LD C#;ST Q#;LD I9;CLR C#;"));
            int sign = word.equals("CTU") ? 1 : -1;
            // The i-th counts i times.
            for (int k = 1; k < 8; k++) {
                for (int i = k; i < 8; i++) {
                    x.input(i, true);
                }
                x.scan(1);
                for (int i = 0; i < 8; i++) {
                    x.input(i, false);
                }
                x.scan(1);
            }
            for (int i = 0; i < 8; i++) {
                Check.same(word + ": CV" + i, x.block(i, 3), sign * i);
                Check.same(word + ": CV" + i + " as an operand", x.word(i), sign * i);
                boolean due = sign < 0 || i >= 5;
                Check.same(word + ": C" + i, x.block(i, 2), due ? 1 : 0);
                Check.same(word + ": C" + i + " as an operand", x.output(i), due);
            }
        }
        for (int i = 0; i < 8; i++) {
            ScanChart x = Check.loaded(forEach(8, "LD 1;CTU C# 1;") + "LD 1;CLR C" + i + ";");
            x.scan(1);
            for (int k = 0; k < 8; k++) {
                Check.same("CV" + k + " behind CLR C" + i, x.block(k, 3), k == i ? 0 : 1);
            }
        }
    }

    private static void risesApart() {
        // With one edge's past in common not each of the sixteen would rise.
        ScanChart x = Check.loaded(forEach(16, "LD I0;RISE E#;ADD W0;ST W0;"));
        x.input(0, true);
        x.scan(1);
        Check.same("sixteen RISE", x.word(0), 16);
        x.scan(1);
        Check.same("sixteen RISE again", x.word(0), 16);
    }

    private static void fallsApart() {
        ScanChart x = Check.loaded(forEach(16, "LD I0;FALL E#;ADD W0;ST W0;"));
        x.input(0, true);
        x.scan(1);
        Check.same("sixteen FALL", x.word(0), 0);
        x.input(0, false);
        x.scan(1);
        Check.same("sixteen FALL behind a 1", x.word(0), 16);
        x.scan(1);
        Check.same("sixteen FALL again", x.word(0), 16);
    }

    private static void stepsApart() {
        for (int i = 1; i < 16; i++) {
            ScanChart x = Check.loaded("STEP 0;STEP " + i + " N Q" + i + " S M" + i + " R M0;GO 0 TO " + i + " IF I0;GO " + i
                    + " TO 0 IF X" + i + ";LD 1;ST M0;LD X" + i + ";ST W" + i + ";LD X0;ST W0;");
            x.scan(1);
            Check.same("X", x.bits(3), 1);
            Check.same("M", x.bits(2), 1);
            x.input(0, true);
            x.scan(1);
            Check.same("X", x.bits(3), 1 << i);
            Check.same("Q", x.bits(1), 1 << i);
            Check.same("M", x.bits(2), 1 << i);
            x.scan(1);
            Check.same("X" + i + " as an operand", x.word(i), 1);
            Check.same("X0 as an operand", x.word(0), 0);
            Check.same("X", x.bits(3), 1);
            Check.same("Q", x.bits(1), 0);
            Check.same("M", x.bits(2), 1 << i | 1);
        }
        allSixteenSteps();
    }

    /** Sixteen steps, sixteen GO's, three actions each: the last of each is kept, too. */
    private static void allSixteenSteps() {
        String text = forEach(16, "STEP # N Q# S M# R Q31;") + forEach(15, "GO # TO +#;") + "GO 15 TO 0;";
        for (int i = 0; i < 15; i++) {
            text = text.replace("+" + i + ";", (i + 1) + ";");
        }
        ScanChart x = Check.loaded(text);
        for (int k = 1; k <= 33; k++) {
            x.scan(1);
            Check.same("fired", x.fired(), 1);
            Check.same("X", x.bits(3), 1 << k % 16);
            Check.same("outputs", x.bits(4), 1 << k % 16);
            Check.same("M", x.bits(2), k < 16 ? (1 << k + 1) - 2 : 0xffff);
        }
        // All at once, in steps of three.
        ScanChart y = Check.loaded(forEach(16, "STEP # S M#;") + "GO 0 TO 1 2 3;GO 1 TO 4 5 6;GO 2 TO 7 8 9;GO 3 TO 10 11 12;"
                + "GO 4 TO 13 14 15;" + "GO 5 6 7 TO 5 6 7;GO 8 9 10 TO 8 9 10;GO 11 12 13 TO 11 12 13;GO 14 TO 0;GO 15 TO 15;");
        int[] due = {0xe, 0x1ff0, 0xffe0, 0xbfe1};
        int[] fired = {1, 3, 3, 5};
        for (int k = 0; k < due.length; k++) {
            y.scan(1);
            Check.same("X at " + k, y.bits(3), due[k]);
            Check.same("fired at " + k, y.fired(), fired[k]);
        }
    }

    private static void labelsApart() {
        // From 31 down to 0, each standing behind the next: thirty-two jumps.
        StringBuilder text = new StringBuilder("JMP L31;");
        for (int i = 0; i < 32; i++) {
            text.append('L').append(i).append(": JMP ").append(i == 0 ? "L32" : "L" + (i - 1)).append(';');
        }
        ScanChart x = Check.loaded(text.toString().replace("JMP L32", "RET") + "LD 1;ST W0;");
        Check.same("scan", x.scan(1), 0);
        Check.same("done", x.done(), 33);
        Check.same("W0", x.word(0), 0);
        for (int i = 0; i < 32; i++) {
            ScanChart y = Check.loaded("JMP L" + i + ";" + forEach(32, "L#: ADD 1;") + "ST W0;");
            y.scan(1);
            Check.same("behind L" + i, y.word(0), 32 - i);
        }
    }

    private static void oneCellTwoSpellings() {
        ScanChart x = Check.loaded("LD I07;ST Q7;LD Q07;ST M07;LD M7;ADD 1;ST W07;LD W7;ST W8;LD 1;TON T07 5;LD 1;TON T7 5;"
                + "LD 1;CTU C07 1;LD 1;CTU C7 1;LD 1;RISE E07;LD 1;RISE E7;ST W9;LD X07;ST W10;STEP 07 S Q8;STEP 00;GO 0 TO 7;"
                + "LD TE07;ST W11;LD CV07;ST W12;JMP L07;ST W13;L7:;");
        x.input(7, true);
        x.scan(1);
        Check.same("Q", x.bits(1), 1 << 7 | 1 << 8);
        Check.same("M", x.bits(2), 1 << 7);
        Check.same("W8", x.word(8), 2);
        Check.same("CV7", x.block(7, 3), 1);
        Check.same("TE7", x.block(7, 1), 0);
        Check.same("W9", x.word(9), 0);
        Check.same("X", x.bits(3), 1 << 7);
        x.scan(5);
        Check.same("TE7", x.block(7, 1), 5);
        Check.same("CV7", x.block(7, 3), 1);
        Check.same("W9", x.word(9), 0);
        Check.same("W10", x.word(10), 1);
        Check.same("W11", x.word(11), 5);
        Check.same("W12", x.word(12), 1);
        Check.same("W13", x.word(13), 0);
    }
}
