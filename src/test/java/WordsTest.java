import java.util.Arrays;
import java.util.HashSet;
import java.util.Set;

/**
 * Which words there are, and what each takes behind it: all that the document tells, and nothing else
 * (promises 4 to 6, faults 1 and 2).
 */
public final class WordsTest {
    private static final String[] CALCULATIONS = {"AND", "ANDN", "OR", "ORN", "XOR", "XORN", "ADD", "SUB",
        "MUL", "DIV", "MOD", "GT", "GE", "EQ", "NE", "LE", "LT"};
    private static final String[] LOADS = {"LD", "LDN"};
    private static final String[] STORES = {"ST", "STN"};
    private static final String[] SETS = {"S", "R"};
    private static final String[] ALONE = {"NOT", "RET", "RETC", "RETCN"};
    private static final String[] JUMPS = {"JMP", "JMPC", "JMPCN"};
    private static final String[] TIMERS = {"TON", "TOF", "TP"};
    private static final String[] COUNTERS = {"CTU", "CTD"};
    private static final String[] EDGES = {"RISE", "FALL"};

    // A word of each kind that may stand behind another, and one out of its range.
    private static final String[] KINDS = {"I", "Q", "M", "W", "T", "TE", "C", "CV", "X", "L", "E", "number", "-number", "label"};
    private static final String[] WORDS = {"I5", "Q5", "M5", "W5", "T5", "TE5", "C5", "CV5", "X5", "L5", "E5", "5", "-5", "L5:"};
    private static final String[] TOO_LARGE = {"I32", "Q32", "M32", "W32", "T8", "TE8", "C8", "CV8", "X16", "L32", "E16",
        "2147483648", "-2147483649", "L32:"};
    private static final String OPERANDS = "I Q M W T TE C CV X number -number";

    public static void main(String[] args) {
        firstWords();
        whatEachTakes();
        whatBracketsTake();
        whatStepTakes();
        whatGoTakes();
        orderOfWords();
        Check.end("WordsTest");
    }

    private static void look(String text, int fault, int place) {
        ScanChart x = new ScanChart();
        Check.feed(x, text);
        Check.same("load '" + text + "'", x.load() == -1, fault != 0);
        Check.same("fault '" + text + "'", x.fault(), fault);
        Check.same("place '" + text + "'", x.place(), place);
    }

    // ---- the words that may begin a line

    private static Set<String> wordsThereAre() {
        Set<String> all = new HashSet<>();
        for (String[] some : new String[][] {CALCULATIONS, LOADS, STORES, SETS, ALONE, JUMPS, TIMERS, COUNTERS, EDGES}) {
            all.addAll(Arrays.asList(some));
        }
        for (String word : CALCULATIONS) {
            all.add(word + "(");
        }
        all.addAll(Arrays.asList("CLR", "STEP", "GO", ")"));
        return all;
    }

    /** Each beginning with each ending: those that there are go wrong behind the word at most. */
    private static void firstWords() {
        Set<String> known = wordsThereAre();
        Set<String> begins = new HashSet<>(known);
        begins.addAll(Arrays.asList("TO", "IF", "IFN", "N", "I", "Q", "M", "W", "T", "TE", "C", "CV", "X", "L", "E", "L5:", "END",
                "CAL", "SET", "CT", "TIM", "G", "L5", "I5", "5", "-", "-5", ":", "("));
        String[] ends = {"", "N", "C", "CN", "NC", "(", "N(", "C(", "((", ")", "()", ":", "5", "S", "R", ",", "-", "\u00ff", "."};
        int found = 0;
        for (String begin : begins) {
            for (String end : ends) {
                String word = begin + end;
                if (word.equals("L5:") || word.equals("L55:")) {
                    continue;
                }
                boolean due = known.contains(word);
                ScanChart x = new ScanChart();
                Check.feed(x, "LD 1;ADD(;" + word + " ?;");
                Check.same("load '" + word + "'", x.load(), -1);
                Check.same("'" + word + "' is a word", x.place() != 10 || x.fault() == 5, due);
                found += due ? 1 : 0;
                if (due) {
                    look("LD 1;ADD(;" + word.toLowerCase() + " 5;", 1, word.equals(")") ? 12 : 10);
                }
            }
        }
        Check.same("all words were tried", found >= known.size(), true);
    }

    // ---- what stands behind them

    private static void whatEachTakes() {
        for (String[] words : new String[][] {LOADS, CALCULATIONS}) {
            eachTakes(words, OPERANDS, "");
        }
        eachTakes(STORES, "Q M W", "");
        eachTakes(SETS, "Q M", "");
        eachTakes(JUMPS, "L", "");
        eachTakes(TIMERS, "T", " 5");
        eachTakes(COUNTERS, "C", " 5");
        eachTakes(new String[] {"CLR"}, "C", "");
        eachTakes(EDGES, "E", "");
        eachTakes(ALONE, "", "");
        for (String[] words : new String[][] {TIMERS, COUNTERS}) {
            for (String word : words) {
                takes("L5:;" + word + (words == TIMERS ? " T0 " : " C0 "), "number", ";");
            }
        }
    }

    private static void eachTakes(String[] words, String kinds, String behind) {
        for (String word : words) {
            takes("L5:;" + word + " ", kinds, behind + ";");
            takes("L5:;L6: " + word + " ", kinds, behind + ";");
        }
    }

    /** Of all kinds of words only those may come there; of them, too large a number is fault 2, of others it is 1. */
    private static void takes(String before, String kinds, String behind) {
        Set<String> due = new HashSet<>(Arrays.asList(kinds.split(" ")));
        for (int k = 0; k < KINDS.length; k++) {
            boolean fine = due.contains(KINDS[k]);
            look(before + WORDS[k] + behind, fine ? 0 : 1, fine ? -1 : before.length());
            look(before + TOO_LARGE[k] + behind, fine ? 2 : 1, before.length());
        }
        String[] never = {"LD", "AND(", "(", ")", "NOT", "JMP", "RET", "TON", "STEP", "GO", "I", "Q", "T", "TE", "CV", "L", "E", "-",
            "i5", "q5", "te5", "TT5", "ET5", "VC5", "CE5", "TV5", "IQ5", "A5", "Z5", "5I", "+5", "5.", "--5", "I5I5", "Q5,"};
        for (String word : never) {
            look(before + word + behind, 1, before.length());
        }
    }

    private static void whatBracketsTake() {
        for (String word : CALCULATIONS) {
            takes("L5:;" + word + "( ", "", ";);");
            takes("L5:;" + word + "(;LD 1;) ", "", ";");
            look(word + "(;);", 0, -1);
        }
    }

    private static void whatStepTakes() {
        takes("L5:;STEP ", "number", ";");
        stepNumbers("STEP ", ";");
        for (String action : new String[] {"N", "S", "R"}) {
            takes("L5:;STEP 0 " + action + " ", "Q M", ";");
            takes("L5:;STEP 0 N Q1 " + action + " ", "Q M", ";");
            takes("L5:;STEP 0 N Q1 R M1 " + action + " ", "Q M", ";");
        }
        for (String before : new String[] {"STEP 0 ", "STEP 0 N Q1 ", "STEP 0 N Q1 S M2 ", "STEP 0 N Q1 S M2 R Q0 "}) {
            for (String word : new String[] {"NN", "SN", "RN", "n", "s", "r", "T", "Q", "M", "TO", "IF", "IFN", "N:", "5", "-", "STEP"}) {
                look(before + word + " Q5;", 1, before.length());
            }
            takes(before, "", ";");
        }
    }

    /** Those of steps stand among the others as "number": all kinds but that go wrong there. */
    private static void stepNumbers(String before, String behind) {
        for (int i = 0; i < 16; i++) {
            look(before + i + behind, 0, -1);
        }
        for (int i = 16; i < 20; i++) {
            look(before + i + behind, 2, before.length());
        }
    }

    private static void whatGoTakes() {
        StringBuilder steps = new StringBuilder("L5:;");
        for (int i = 0; i < 16; i++) {
            steps.append("STEP ").append(i).append(';');
        }
        String[] before = {"GO ", "GO 0 ", "GO 0 1 ", "GO 1 TO ", "GO 1 TO 1 ", "GO 1 2 3 TO 1 2 "};
        for (String go : before) {
            boolean first = !go.contains("TO");
            takes(steps + go, "number", first ? " TO 0;" : ";");
            stepNumbers(steps + go, first ? " TO 0;" : ";");
        }
        // Behind three there is no fourth, neither in nor out of its range.
        takes(steps + "GO 0 1 2 ", "", " TO 0;");
        takes(steps + "GO 0 TO 0 1 2 ", "", ";");
        for (String word : new String[] {"IF", "IFN"}) {
            takes(steps + "GO 0 TO 1 " + word + " ", OPERANDS, ";");
            takes(steps + "GO 0 1 2 TO 1 2 3 " + word + " ", OPERANDS, ";");
            takes(steps + "GO 0 TO 1 " + word + " I5 ", "", ";");
        }
        for (String word : new String[] {"IFC", "IFNN", "NIF", "if", "Ifn", "I", "F", "WHEN", "TO", "to", "IF:", "NOT"}) {
            look("STEP 0;GO 0 TO 0 " + word + " 5;", 1, 17);
        }
        for (String word : new String[] {"to", "To", "T", "O", "TOO", "TON", "IF", "IFN", "TO:", "->"}) {
            look("STEP 0;GO 0 " + word + " 0;", 1, 12);
            look("STEP 0;GO " + word + " 0;", 1, 10);
        }
    }

    /** Lines end right behind what they need, and not before. */
    private static void orderOfWords() {
        String[] lines = {"L1: LD I0", "ADD -5", "STN W0", "S M0", "L2: NOT", "JMPCN L2", "RETC", "TON T0 5", "CTD C0 5", "CLR C0",
            "FALL E0", "STEP 1 N Q0 S M0 R Q1", "GO 1 1 1 TO 1 1 1 IF I0", "L3: STEP 2", "L4: GO 1 TO 1"};
        for (String line : lines) {
            String before = line.startsWith("JMP") ? "L2:;" : line.contains("GO") ? "STEP 1;" : "";
            String text = before + line;
            look(text + ";", 0, -1);
            look(text + " ;", 0, -1);
            look("\n" + text.replace(" ", " \t ") + "\r\n;\n", 0, -1);
            look(text, 1, text.length());
            look(text + " ", 1, text.length() + 1);
            for (String word : new String[] {"?", "LD", "I0", "TO", "NOT", "L7:", "(", ")"}) {
                look(text + " " + word + ";", 1, text.length() + 1);
            }
            // A line cut off behind its first word or a later one: at the ; or at the end of the text.
            String[] words = line.split(" ");
            String begun = before;
            for (int k = 0; k < words.length - 1; k++) {
                begun = begun + (k > 0 ? " " : "") + words[k];
                boolean whole = words[k].endsWith(":") || words[0].equals("STEP") && k > 0 && k % 2 == 1
                        || words[0].equals("GO") && k > 4 && k < 8 || line.startsWith("L4:") && k > 3;
                look(begun + ";", whole ? 0 : 1, whole ? -1 : begun.length());
                look(begun + "  ;", whole ? 0 : 1, whole ? -1 : begun.length() + 2);
                look(begun, 1, begun.length());
            }
        }
    }
}
