/** Promises 4 (load), 5 (fault) and 6 (place): the text, and what is a fault in it. */
public final class LoadTest {
    private static final String[] CALCULATIONS = {"AND", "ANDN", "OR", "ORN", "XOR", "XORN", "ADD", "SUB",
        "MUL", "DIV", "MOD", "GT", "GE", "EQ", "NE", "LE", "LT"};
    private static final String[] OPERANDS = {"I0", "I31", "Q0", "Q31", "M0", "M31", "W0", "W31", "T0", "T7",
        "TE0", "TE7", "C0", "C7", "CV0", "CV7", "X0", "X15", "I07", "X09", "TE01", "0", "7", "-1", "-0", "007",
        "2147483647", "-2147483648", "00000000000000000000002147483647", "-0000000000000000000002147483648"};
    private static final String[] OUT_OF_RANGE = {"I32", "Q32", "M32", "M99", "W32", "T8", "TE8", "C8", "CV8", "CV10", "X16",
        "I007", "X000", "TE000", "I4294967296", "2147483648", "-2147483649", "18446744073709551616",
        "-99999999999999999999999999999999"};
    private static final String[] NO_OPERANDS = {"I", "Q", "TE", "-", "--1", "1-", "+1", "i0", "L0", "E0", "Z0",
        "IQ0", "I0x", "I-1", "I0:", "0x1", "TV0", "CE0", "1I", "LD", ")", "(", "I0,", "\u00c90", "E", "I\u00b2"};

    public static void main(String[] args) {
        blanksAndLines();
        everyByte();
        fullTexts();
        numbers();
        labels();
        operands();
        stores();
        brackets();
        jumps();
        timersAndCounters();
        steps();
        goes();
        tooMany();
        bracketFaults();
        missing();
        firstFault();
        leastOfSeveral();
        faultChangesNothing();
        loadResets();
        loadForgetsTheLastScan();
        faultKeepsTheLastScan();
        loadsAreApart();
        Check.end("LoadTest");
    }

    private static void fine(String text, int count) {
        ScanChart x = new ScanChart();
        Check.feed(x, text);
        Check.same("load '" + text + "'", x.load(), count);
        Check.same("fault '" + text + "'", x.fault(), 0);
        Check.same("place '" + text + "'", x.place(), -1);
    }

    /** In the text a ^ marks the place. */
    private static void fault(int kind, String marked) {
        int place = marked.indexOf('^');
        String text = marked.substring(0, place) + marked.substring(place + 1);
        ScanChart x = new ScanChart();
        Check.feed(x, text);
        Check.same("load '" + text + "'", x.load(), -1);
        Check.same("fault '" + text + "'", x.fault(), kind);
        Check.same("place '" + text + "'", x.place(), place);
    }

    private static void blanksAndLines() {
        fine(";", 0);
        fine(";;  ; ;", 0);
        fine(" \n\t\u0000 ", 0);
        fine("LD 1;", 1);
        fine("LD 1;  \n", 1);
        fine("\u0000LD\u001f1\t;\n\rST\u0001\u0002W0 ;", 2);
        fine("LD 1;ST W0;;LD 2;", 3);
        fine("LD\u00001\n;", 1);
        fault(1, "LD 1^");
        fault(1, "LD 1  ^");
        fault(1, "LD ^");
        fault(1, "LD^");
        fault(1, "LD ^;");
        fault(1, "LD 1 ^2;");
        fault(1, "^LD1;");
        fault(1, "^ld 1;");
        fault(1, "^\u007f;");
        fault(1, "^\u0080;");
        fault(1, "LD 1;^\u00ff");
        fault(1, "LD 1; ^LD! 2;");
        fault(1, "^LD\u00a01;");
        fault(1, "^1;");
        fault(1, "^I0;");
        fault(1, "^TO;");
        fault(1, "^IF;");
        fault(1, "^N Q0;");
        fault(1, ";;^x;");
    }

    /** "Bytes not above 32 are blanks"; ; ends a line, and all others are parts of words. */
    private static void everyByte() {
        for (int b = 0; b < 256; b++) {
            String sign = String.valueOf((char) b);
            boolean blank = b <= 32;
            boolean figure = b >= '0' && b <= '9';
            if (blank) {
                fine("LD" + sign + "1;", 1);
                fine(sign + "LD" + sign + sign + "1" + sign + ";" + sign + "L0:" + sign + "NOT" + sign + ";" + sign, 2);
                fault(1, "^L1" + sign + ":;");
                fault(1, "LD 1" + sign + "^");
                fault(1, "LD I1" + sign + "^1;");
            } else if (b == ';') {
                fault(1, "LD^;1;");
                fine("LD 1;;", 1);
            } else {
                fault(1, "^LD" + sign + "1;");
                fault(1, "^" + sign + "LD 1;");
                // These three are words a line may begin with.
                fault(b == ')' ? 5 : 1, b == 'R' || b == 'S' ? "LD 1;" + sign + "^" : "LD 1;^" + sign);
            }
            if (figure) {
                fine("LD 1" + sign + ";LD I1" + sign + ";L1" + sign + ":;TON T0 1" + sign + ";", 3);
            } else if (!blank && b != ';') {
                fault(1, "LD ^1" + sign + ";");
                fault(1, "LD ^1" + sign + "1;");
                fault(1, "LD ^I1" + sign + ";");
                fault(1, "TON T0 ^1" + sign + ";");
                fault(1, "^L1" + sign + ":;");
                fault(1, "STEP ^1" + sign + ";");
                fault(1, "STEP 0; GO 0 TO 0 ^0" + sign + ";");
            }
            if (!figure && b != '-') {
                fault(1, blank ? "LD " + sign + "^;" : b == ';' ? "LD ^;;" : "LD ^" + sign + ";");
            }
        }
    }

    /** Faults up to the last of 700 bytes, and behind it. */
    private static void fullTexts() {
        fine(Check.times(700, " "), 0);
        fine(Check.times(700, ";"), 0);
        fine(Check.times(694, "\n") + "LD 1; ", 1);
        fine(Check.times(695, ";") + "LD 1;", 1);
        fine(Check.times(696, ";") + "NOT;", 1);
        fault(1, Check.times(697, ";") + "L0:^");
        fine(Check.times(696, ";") + "L0:;", 0);
        fault(1, Check.times(699, ";") + "^x");
        fault(1, Check.times(699, " ") + "^x");
        fault(1, "^" + Check.times(700, "x"));
        fault(1, Check.times(697, " ") + "LD^;");
        fault(1, Check.times(698, " ") + "LD^");
        fault(1, Check.times(697, ";") + "NOT^");
        fault(1, Check.times(693, ";") + "LD 1   ^");
        fault(5, Check.times(695, ";") + "AND(;^");
        fault(5, Check.times(698, ";") + "^);");
        fault(2, Check.times(693, ";") + "LD ^I32;");
        fault(2, "LD ^I" + Check.times(695, "0") + ";");
        fault(2, "^L" + Check.times(697, "0") + ":;");
        fault(4, "L0:;" + Check.times(692, " ") + "^L0:;");
        fault(6, Check.times(693, ";") + "JMP ^L0;");
    }

    /** "Others any number of them": the figures of numbers, up to the whole text; and no row of them wraps. */
    private static void numbers() {
        fine("LD " + Check.times(695, "0") + "7;", 1);
        Check.same("W0", Check.word0("LD " + Check.times(680, "0") + "2147483647;ST W0;"), Integer.MAX_VALUE);
        Check.same("W0", Check.word0("LD -" + Check.times(679, "0") + "2147483648;ST W0;"), Integer.MIN_VALUE);
        Check.same("W0", Check.word0("LD -" + Check.times(679, "0") + "1;ST W0;"), -1);
        fault(2, "LD ^" + Check.times(680, "0") + "2147483648;");
        fault(2, "LD ^-" + Check.times(680, "0") + "2147483649;");
        fault(2, "LD ^" + Check.times(696, "9") + ";");
        fault(2, "LD ^-" + Check.times(695, "9") + ";");
        fault(2, "LD ^1" + Check.times(695, "0") + ";");
        fault(2, "STEP ^" + Check.times(694, "0") + ";");
        // What these are when cut off to 32 or 64 bits would be allowed.
        String[] wraps = {"4294967296", "4294967301", "8589934592", "18446744073709551616", "18446744073709551621",
            "36893488147419103232", "340282366920938463463374607431768211456"};
        for (String number : wraps) {
            fault(2, "LD ^" + number + ";");
            fault(2, "LD ^-" + number + ";");
            fault(2, "TON T0 ^" + number + ";");
            fault(2, "TOF T0 ^" + number + ";");
            fault(2, "TP T0 ^" + number + ";");
            fault(2, "CTU C0 ^" + number + ";");
            fault(2, "CTD C0 ^" + number + ";");
            fault(2, "STEP 0; GO 0 TO 0 IF ^" + number + ";");
        }
        fine("TON T0 1000000; TOF T0 1000000; TP T0 1000000; CTU C0 32767; CTD C0 32767;", 5);
        fault(2, "TP T0 ^1000001;");
        fault(2, "CTD C0 ^32768;");
        fine("STEP 0; GO 0 TO 0 IF 2147483647; GO 0 TO 0 IF -2147483648;", 0);
        fault(2, "STEP 0; GO 0 TO 0 IF ^2147483648;");
        fault(2, "STEP 0; GO 0 TO 0 IFN ^-2147483649;");
    }

    private static void labels() {
        fine("L0:;", 0);
        fine("L0: ; L31: LD 1; L07: ;", 1);
        fine("L1: STEP 0; L2: GO 0 TO 0; L3:;", 0);
        fault(1, "L0:^");
        fault(1, "L0: ^L1: LD 1;");
        fault(1, "L0: ^L0: LD 1;");
        fault(1, "LD 1 ^L0:;");
        fault(1, "^L0;");
        fault(1, "^L:;");
        fault(1, "^L0:LD 1;");
        fault(1, "^L0 : LD 1;");
        fault(1, "^L0::;");
        fault(1, "^:;");
        fault(1, "^L-1:;");
        fault(1, "^l0:;");
        fault(1, "L0: ^FOO;");
        fault(2, "^L32:;");
        fault(2, "^L001:;");
        fault(2, "^L99999999999999999999:;");
        fault(2, "LD 1; ^L4294967296: LD 1;");
        fault(4, "L0: LD 1; ^L0: LD 2;");
        fault(4, "L5:; ^L05:;");
        fault(4, "L31: LD 1; LD 2; ^L31: x;");
    }

    private static void operands() {
        String[] takers = {"LD", "LDN"};
        for (String taker : takers) {
            takes(taker, OPERANDS, OUT_OF_RANGE, NO_OPERANDS);
            fault(1, "^" + taker + "( 1; );");
        }
        for (String taker : CALCULATIONS) {
            takes(taker, OPERANDS, OUT_OF_RANGE, NO_OPERANDS);
        }
    }

    private static void takes(String word, String[] good, String[] tooLarge, String[] bad) {
        for (String operand : good) {
            fine(word + " " + operand + ";", 1);
        }
        for (String operand : tooLarge) {
            fault(2, word + " ^" + operand + ";");
        }
        for (String operand : bad) {
            fault(1, word + " ^" + operand + ";");
        }
        fault(1, word + " ^;");
        fault(1, word + " ^");
        fault(1, word + " " + good[0] + " ^" + good[0] + ";");
        fault(1, word + " " + good[0] + "^");
    }

    private static void stores() {
        String[] words = {"Q0", "M31", "W5", "W05"};
        String[] large = {"Q32", "M32", "W32", "W005", "M100"};
        String[] bad = {"I0", "I99", "T0", "TE0", "C0", "CV0", "X0", "5", "-5", "L0", "99999999999", "W", "E3"};
        takes("ST", words, large, bad);
        takes("STN", words, large, bad);
        String[] bits = {"Q0", "M31", "Q09"};
        String[] largeBits = {"Q32", "M032"};
        String[] badBits = {"W0", "W32", "I0", "T0", "X0", "1"};
        takes("S", bits, largeBits, badBits);
        takes("R", bits, largeBits, badBits);
        fault(1, "^SN Q0;");
        fault(1, "^RN Q0;");
        fault(1, "^ST( W0;");
    }

    private static void brackets() {
        for (String word : CALCULATIONS) {
            fine(word + "( ; LD 1; );", 3);
            fault(1, word + "( ^LD 1; );");
            fault(1, word + "( ^1; );");
            fault(1, word + " ^( ; );");
            fault(1, "^" + word + "(LD 1; );");
            fault(1, "^" + word + "((; );");
            fault(1, word + "(;) ^1;");
        }
        fine("NOT;", 1);
        fault(1, "NOT ^I0;");
        fault(1, "^NOT(;);");
        fault(1, "^(;);");
        fault(1, "AND(; ) ^);");
        fault(1, "AND(; ^)(;");
        fault(1, "AND(; ^));");
    }

    private static void jumps() {
        String[] words = {"JMP", "JMPC", "JMPCN"};
        for (String word : words) {
            fine("L5: " + word + " L5;", 1);
            fine(word + " L31; L31:;", 1);
            fine("L7:; " + word + " L07;", 1);
            fault(1, word + " ^;");
            fault(1, word + " ^5;");
            fault(1, word + " ^L5:;");
            fault(1, word + " ^L;");
            fault(1, word + " ^I5;");
            fault(1, word + " L5 ^L6;");
            fault(2, word + " ^L32;");
            fault(2, word + " ^L005;");
            fault(1, "^" + word + "(;);");
        }
        String[] returns = {"RET", "RETC", "RETCN"};
        for (String word : returns) {
            fine(word + ";", 1);
            fault(1, word + " ^L0;");
            fault(1, word + " ^");
        }
        fault(1, "^JMPN L0;");
        fault(1, "^RETN;");
    }

    private static void timersAndCounters() {
        String[] timers = {"TON", "TOF", "TP"};
        for (String word : timers) {
            numbered(word, "T", 1000000, "T8");
            fault(1, word + " ^TE0 5;");
            fault(1, word + " ^C0 5;");
        }
        String[] counters = {"CTU", "CTD"};
        for (String word : counters) {
            numbered(word, "C", 32767, "C8");
            fault(1, word + " ^CV0 5;");
            fault(1, word + " ^T0 5;");
        }
        takes("CLR", new String[] {"C0", "C7", "C03"}, new String[] {"C8", "C003"},
                new String[] {"CV0", "T0", "0", "C", "C-1", "Q0"});
        String[] edges = {"RISE", "FALL"};
        for (String word : edges) {
            takes(word, new String[] {"E0", "E15", "E09"}, new String[] {"E16", "E000", "E99"},
                    new String[] {"I0", "0", "E", "15", "C1"});
        }
    }

    private static void numbered(String word, String letter, int most, String large) {
        fine(word + " " + letter + "0 0;", 1);
        fine(word + " " + letter + "07 " + most + ";", 1);
        fine(word + " " + letter + "7 000000000000000000" + most + ";", 1);
        fault(2, word + " ^" + large + " 1;");
        fault(2, word + " ^" + letter + "001 1;");
        fault(2, word + " " + letter + "0 ^" + (most + 1) + ";");
        fault(2, word + " " + letter + "0 ^18446744073709551616;");
        fault(1, word + " " + letter + "0 ^-1;");
        fault(1, word + " " + letter + "0 ^-0;");
        fault(1, word + " " + letter + "0 ^I0;");
        fault(1, word + " " + letter + "0 ^;");
        fault(1, word + " " + letter + "0^");
        fault(1, word + " ^5 5;");
        fault(1, word + " ^;");
        fault(1, word + " " + letter + "0 5 ^5;");
    }

    private static void steps() {
        fine("STEP 0;", 0);
        fine("STEP 15 N Q0 S M31 R Q31;", 0);
        fine("STEP 07 N Q0 N Q0;STEP 08;", 0);
        fault(1, "STEP ^;");
        fault(1, "STEP ^X0;");
        fault(1, "STEP ^-1;");
        fault(1, "STEP 0 ^Q0;");
        fault(1, "STEP 0 N ^;");
        fault(1, "STEP 0 N ^N;");
        fault(1, "STEP 0 ^n Q0;");
        fault(1, "STEP 0 ^NQ0;");
        fault(1, "STEP 0 N ^W0;");
        fault(1, "STEP 0 N ^I0;");
        fault(1, "STEP 0 N ^5;");
        fault(1, "STEP 0 N Q0 S Q1 R Q2 ^N Q3;");
        fault(1, "STEP 0 N Q0 S Q1 R Q2 ^4;");
        fault(1, "STEP 0 ^1;");
        fault(1, "STEP 0 N Q0^");
        fault(2, "STEP ^16;");
        fault(2, "STEP ^000;");
        fault(2, "STEP ^4294967296;");
        fault(2, "STEP 0 N ^Q32;");
        fault(2, "STEP 0 N Q0 S ^M001;");
        fault(4, "STEP 3; STEP ^3;");
        fault(4, "STEP 3; STEP ^03 N Q99;");
        fault(4, "STEP 1; STEP 2; STEP ^1");
    }

    private static void goes() {
        String step = "STEP 0; STEP 1; STEP 2; STEP 15; ";
        fine(step + "GO 0 TO 1;", 0);
        fine(step + "GO 0 1 2 TO 15 2 01;", 0);
        fine(step + "GO 0 0 0 TO 0 0 0;", 0);
        fine(step + "GO 0 TO 1 IF I0; GO 0 TO 1 IFN -5; GO 0 TO 1 2 IF CV7;", 0);
        fault(1, step + "GO ^TO 1;");
        fault(1, step + "GO ^;");
        fault(1, step + "GO 0 ^;");
        fault(1, step + "GO 0 ^X1 TO 1;");
        fault(1, step + "GO 0 ^-1 TO 1;");
        fault(1, step + "GO 0 ^to 1;");
        fault(1, step + "GO 0 1 2 ^2 TO 1;");
        fault(1, step + "GO 0 1 2 ^16 TO 1;");
        fault(1, step + "GO 0 ^IF I0;");
        fault(1, step + "GO 0 TO ^;");
        fault(1, step + "GO 0 TO ^TO 1;");
        fault(1, step + "GO 0 TO ^IF I0;");
        fault(1, step + "GO 0 TO 1 1 1 ^1;");
        fault(1, step + "GO 0 TO 1 ^TO 1;");
        fault(1, step + "GO 0 TO 1 IF ^;");
        fault(1, step + "GO 0 TO 1 IF ^IF;");
        fault(1, step + "GO 0 TO 1 IF I0 ^I1;");
        fault(1, step + "GO 0 TO 1 IF I0 ^IFN I1;");
        fault(1, step + "GO 0 TO 1 ^I0;");
        fault(1, step + "GO 0 TO 1^");
        fault(2, step + "GO ^16 TO 1;");
        fault(2, step + "GO 0 ^001 TO 1;");
        fault(2, step + "GO 0 TO 1 ^99;");
        fault(2, step + "GO 0 TO 1 IF ^I32;");
        fault(2, step + "GO 0 TO 1 IFN ^2147483648;");
    }

    private static void tooMany() {
        fine(Check.times(80, "LD 1;"), 80);
        fine(Check.times(80, "LD 1;") + ";L0:;STEP 0;GO 0 TO 0; ;", 80);
        fault(3, Check.times(80, "LD 1;") + "^LD 1;");
        fault(3, Check.times(80, "LD 1;") + "L0: ^LD 1;");
        fault(3, Check.times(80, "LD 1;") + "L0:; L1: ^NOT 1;");
        fault(3, Check.times(80, "LD 1;") + "^);");
        fault(3, Check.times(80, "LD 1;") + "^LD I99;");
        fault(1, Check.times(80, "LD 1;") + "^LDX;");
        fault(4, "L0:;" + Check.times(80, "LD 1;") + "^L0: LD 1;");
        fault(3, Check.times(7, "OR(;") + Check.times(7, ");") + Check.times(66, "NOT;") + "^NOT;");
        fault(3, Check.times(72, "NOT;") + Check.times(8, "OR(;") + "^OR(;");
        fault(3, Check.times(79, "NOT;") + "OR(;" + "^JMP L0;");
        fault(5, Check.times(79, "NOT;") + "OR(;" + "^GO 0 TO 0;");
        fault(5, Check.times(79, "NOT;") + "OR(; ^");
        fine("STEP 0;" + Check.times(16, "GO 0 TO 0;"), 0);
        fine("STEP 0;" + Check.times(16, "GO 0 TO 0;") + "LD 1; L0:; STEP 1;", 1);
        fault(3, "STEP 0;" + Check.times(16, "GO 0 TO 0;") + "LD 1; L9: ^GO 0 TO 0;");
        fault(3, "STEP 0;" + Check.times(16, "GO 0 TO 0;") + "^GO x");
        fault(3, "STEP 0;" + Check.times(16, "GO 0 TO 0;") + "OR(;^GO 0 TO 0;");
    }

    private static void bracketFaults() {
        fine("ADD(; LD 1; MUL(; LD 2; ); );", 6);
        fine(Check.times(8, "ADD(;") + Check.times(8, ");"), 16);
        fine("ADD(;);ADD(;);", 4);
        fine("AND(; TON T0 5; CTU C0 1; CLR C0; RISE E0; NOT; S Q0; ; );", 8);
        fault(5, "^);");
        fault(5, "ADD(; ); ^);");
        fault(5, "^) 1;");
        fault(5, Check.times(8, "ADD(;") + " ^SUB(;");
        fault(5, Check.times(8, "ADD(;") + ");ADD(; ^SUB(;");
        fault(5, Check.times(8, "ADD(;") + " ^SUB( 1;");
        fault(5, "ADD(; ^L0: LD 1; );");
        fault(5, "ADD(; ^L0:; );");
        fault(4, "L0:; ADD(; ^L0: LD 1; );");
        fault(2, "L0:; ADD(; ^L32: LD 1; );");
        fault(5, "ADD(; ^L0: x; );");
        String[] words = {"JMP L0", "JMPC L0", "JMPCN L0", "RET", "RETC", "RETCN", "STEP 0", "GO 0 TO 0", "JMP", "GO"};
        for (String word : words) {
            fault(5, "STEP 0; L0: ADD(; ^" + word + ";);");
            fault(5, "STEP 0; L0: ADD(; LD 1; ADD(;); ^" + word + "; );");
        }
        fault(5, "ADD(;^");
        fault(5, "ADD(;ADD(;);  ^");
        fault(1, "ADD(^");
        fault(1, "ADD(; LD 1^");
        fault(5, "JMP L9; ADD(;^");
    }

    private static void missing() {
        fault(6, "JMP ^L0;");
        fault(6, "L0:; JMP ^L1; JMPC L0; JMPCN L2;");
        fault(6, "LD 1; JMP L2; JMP ^L3; L2:; JMP L4;");
        fault(6, "STEP 1; GO ^0 TO 1;");
        fault(6, "STEP 0; GO 0 TO ^1;");
        fault(6, "STEP 0; GO 0 TO 0 ^2; JMP L0;");
        fault(6, "GO 0 ^5 TO 0; STEP 0;");
        fault(6, "GO 0 TO ^01 0; STEP 0; JMP L1;");
        fault(6, "STEP 0; JMP ^L1; GO 0 TO 2;");
        fault(6, "GO ^15 TO 0; STEP 0;");
        fault(6, Check.times(690 / 5, "    ;") + "JMP ^L31;");
        // The first in the text, whichever its number is.
        fault(6, "JMP ^L5; JMP L3;");
        fault(6, "JMP ^L3; JMP L5;");
        fault(6, "JMPC ^L31; JMPCN L0; JMP L31; L1:;");
        fault(6, "GO ^5 TO 3; STEP 4;");
        fault(6, "GO ^3 TO 5; STEP 4;");
        fault(6, "GO 4 TO 4 ^9 2; GO 2 TO 9; STEP 4;");
        fault(6, "JMP ^L9; GO 2 TO 2; JMP L1;");
        fault(6, "GO ^9 TO 2; JMP L1; STEP 2;");
        // Steps told as cells need no STEP, behind IF either.
        fine("LD X5; STEP 0; GO 0 TO 0 IF X7;", 1);
        fine("GO 1 TO 2; STEP 2; STEP 1; JMP L0; L0:;", 1);
    }

    private static void firstFault() {
        fault(1, "JMP L0; ^FOO; L32:;");
        fault(2, "JMP L0; LD ^I32; FOO;");
        fault(5, "JMP L0; ^); LD I32;");
        fault(4, "JMP L1; L0:; ^L0:; );");
        fault(1, "JMP L1; LD 1; LD ^");
    }

    /** "Of several at one place that with the least number"; of several places the first, whatever the numbers. */
    private static void leastOfSeveral() {
        String full = Check.times(80, "NOT;");
        // 1, though 2 (a number out of its range) would be there as well if the word could come.
        fault(1, "L0: ^L32: LD 1;");
        fault(1, "LD 1 ^I99;");
        fault(1, "ST ^I32;");
        fault(1, "ST ^99999999999;");
        fault(1, "S ^W32;");
        fault(1, "CTU C0 ^-99999999999;");
        fault(1, "TON ^C8 1;");
        fault(1, "STEP ^-16;");
        fault(1, "JMP ^L32:;");
        fault(1, "NOT ^I32;");
        // 1 before 3.
        fault(1, full + "^LD( 1;");
        fault(1, full + "^L0;");
        fault(1, full + "L0: ^L1: LD 1;");
        fault(1, full + "L0: ^x;");
        fault(1, full + "^ADD((;");
        // 1 before 4 and 5.
        fault(1, "L0: ^L0: LD 1;");
        fault(1, "ADD(; ^JMP( L0;);");
        fault(1, "ADD(; ^L0 : LD 1;);");
        fault(1, "ADD(; ^RETX;);");
        fault(1, "ADD(; LD^");
        fault(1, Check.times(8, "ADD(;") + "^LD(;");
        // 2 before 5; 3 before 5, 4 before 5.
        fault(2, "ADD(; ^L32:;);");
        fault(2, "ADD(; ^L000:;);");
        fault(3, full + "^) 1;");
        fault(3, Check.times(79, "NOT;") + "ADD(;^RET;");
        fault(3, Check.times(72, "NOT;") + Check.times(8, "ADD(;") + "^ADD(;");
        fault(3, "STEP 0;" + Check.times(16, "GO 0 TO 0;") + "ADD(;^GO 0 TO 0;");
        fault(4, "L7:;ADD(;^L07:;);");
        // The first place, though a later one has a lesser number, in one line or in two.
        fault(2, "LD ^I32 x;");
        fault(2, "^L32: x;");
        fault(2, "TON ^T8 -1;");
        fault(3, full + "^LD x;");
        fault(3, full + "^NOT; x;");
        fault(4, "L0:;^L0: x;");
        fault(4, "STEP 1;STEP ^1 x;");
        fault(5, "^) x;");
        fault(5, "ADD(; ^RET x;);");
        fault(5, "ADD(; ^STEP 16;);");
        fault(5, "STEP 1;ADD(; ^STEP 1;);");
        fault(5, "ADD(; ^GO 16 TO 0;);");
        fault(5, "ADD(; ^JMP L32;);");
        fault(5, "STEP 0; GO 0 TO 7; JMP L9; ADD(;  ^");
        fault(6, "JMP ^L9; STEP 0; GO 0 TO 7;");
        fault(6, "STEP 0; GO 0 TO ^7; JMP L9;");
        fault(6, "STEP 3; JMP L1; GO 3 3 ^4 TO 5 6 7; L1:; JMP L2;");
        fault(6, "STEP 3; GO 3 TO 3 ^5; GO 5 TO 6;");
    }

    private static void faultChangesNothing() {
        ScanChart x = Check.loaded("LD 1; ADD W0; ST W0; ST Q3; TON T0 9; STEP 0 N Q1; STEP 1; GO 0 TO 1 IF I0;");
        x.input(0, true);
        x.scan(5);
        x.scan(5);
        x.wipe();
        Check.feed(x, "LD 5; ST W0; DIV 0; FOO;");
        long[] before = Check.answers(x);
        Check.same("load", x.load(), -1);
        Check.same("fault", x.fault(), 1);
        Check.same("place", x.place(), 20);
        long[] after = Check.answers(x);
        // All but the first two answers: the fault and its place.
        for (int k = 2; k < before.length; k++) {
            Check.same("answer " + k + " behind a fault", after[k], before[k]);
        }
        Check.same("the old program goes on", x.scan(5), 0);
        Check.same("W0", x.word(0), 3);
        Check.same("TE0", x.block(0, 1), 9);
        Check.same("time", x.time(), 15);
        Check.same("the text stays", x.wipe(), 24);
        ScanChart y = Check.loaded("LD 1; DIV 0;");
        Check.same("scan", y.scan(1), 2);
        Check.feed(y, "x");
        Check.same("load", y.load(), -1);
        Check.same("a fault doesn't undo the stop", y.scan(1), -1);
    }

    /** Nothing of a text read before is left over, be it a program or a fault. */
    private static void loadsAreApart() {
        ScanChart x = new ScanChart();
        for (int k = 0; k < 3; k++) {
            Check.reload(x, "L0: LD 1; JMP L0; STEP 0 N Q0 S Q1 S M2; STEP 1; GO 0 TO 1; JMP L7; L7:;");
            Check.reload(x, "STEP 0; STEP 1; LD 1; ST Q2;");
            Check.reload(x, "STEP 0; LD 1; ST Q0; L0:; L7:;");
            Check.same("scan", x.scan(1), 0);
            Check.same("Q", x.bits(1), 1);
            Check.same("M", x.bits(2), 0);
            Check.same("X", x.bits(3), 1);
            Check.same("done", x.done(), 2);
            x.wipe();
            Check.feed(x, "JMP L5; GO 9 TO 0; AND(;");
            Check.same("load", x.load(), -1);
            Check.same("fault", x.fault(), 1 + 4);
            Check.same("place", x.place(), 24);
            Check.reload(x, "LD 1;");
            Check.same("fault", x.fault(), 0);
        }
    }

    private static void loadResets() {
        ScanChart x = Check.loaded("LD 1; ADD W0; ST W0; ST Q3; CTU C1 0; STEP 0; STEP 1; GO 0 TO 1; DIV W9;");
        x.input(4, true);
        Check.same("scan", x.scan(5), 2);
        Check.same("load", x.load(), 6);
        Check.same("W0", x.word(0), 0);
        Check.same("time", x.time(), 0);
        Check.same("C1", x.block(1, 2), 0);
        Check.same("I", x.bits(0), 0);
        Check.same("the stop is undone", x.scan(1), 2);
        Check.same("inputs stay", x.bits(0), 16);
        Check.same("the text stays", x.wipe(), 72);
        Check.same("load", x.load(), 0);
        Check.same("an empty program", x.scan(1), 0);
        Check.same("done", x.done(), 0);
        Check.same("X", x.bits(3), 1);
        Check.same("fired", x.fired(), 0);
    }

    /** Behind a load all answers are those of a new object, also done() and fired(): no scan has been done yet. */
    private static void loadForgetsTheLastScan() {
        long[] fresh = Check.answers(new ScanChart());
        String[] texts = {"LD 1; ST Q0; STEP 0 S M1; STEP 1 N Q2; GO 0 TO 1;", "STEP 0; GO 0 TO 0;", "LD 1; DIV 0;",
            "L0: JMP L0;", "LD 1; TON T0 0; CTU C0 0; ST W3;"};
        for (String text : texts) {
            ScanChart x = Check.loaded(text);
            long due = x.load();
            for (int k = 0; k < 3; k++) {
                x.scan(3);
                Check.same("a scan of '" + text + "' can be seen", x.done() + x.fired() > 0, true);
                Check.same("load", x.load(), due);
                Check.unchanged("a load of the same text makes '" + text + "' as new: it", x, fresh);
            }
            x.run(5, 3);
            Check.reload(x, "");
            Check.unchanged("a load of no text behind '" + text + "' makes all as new: it", x, fresh);
        }
    }

    /** A load with a fault resets nothing, so the last scan is still the last one, until a reset. */
    private static void faultKeepsTheLastScan() {
        ScanChart x = Check.loaded("LD 1; ST Q0; STEP 0; GO 0 TO 0;");
        x.scan(1);
        Check.feed(x, "x");
        Check.same("load", x.load(), -1);
        Check.same("done", x.done(), 2);
        Check.same("fired", x.fired(), 1);
        x.reset();
        Check.same("load", x.load(), -1);
        Check.same("done behind a reset and a fault", x.done(), 0);
        Check.same("fired behind a reset and a fault", x.fired(), 0);
        Check.same("scan", x.scan(1), 0);
        Check.same("load", x.load(), -1);
        Check.same("done", x.done(), 2);
        Check.same("fired", x.fired(), 1);
        Check.reload(x, "STEP 0; GO 0 TO 0;");
        Check.same("done", x.done(), 0);
        Check.same("fired", x.fired(), 0);
        Check.same("scan", x.scan(1), 0);
        Check.same("done", x.done(), 0);
        Check.same("fired", x.fired(), 1);
    }
}
