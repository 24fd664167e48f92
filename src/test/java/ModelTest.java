/** Many runs of calls on texts put together by a fixed row of numbers, compared with the Model. */
public final class ModelTest {
    private static final String[] CALC = {"AND", "ANDN", "OR", "ORN", "XOR", "XORN", "ADD", "SUB", "MUL", "DIV", "MOD",
        "GT", "GE", "EQ", "NE", "LE", "LT"};
    private static final String[] NUMBERS = {"0", "1", "2", "3", "-1", "7", "100", "2147483647", "-2147483648", "-0", "007"};
    private static final String[] ODD = {"LD", "I32", "L0:", "L5:", ")", "AND(", "(", ";", "16", "32768", "1000001",
        "2147483648", "-5", "TO", "IF", "N", "JMP", "L9", "GO", "STEP", "X", "T8", "I007", "foo", "E3", "RET", "W1", "Q2"};

    private static long seed;
    private static int open;
    private static int loads;
    private static int good;
    private static final int[] FAULTS = new int[7];
    private static final int[] STOPS = new int[4];
    private static int fired;
    private static String history = "";
    // How many calls the run's object has had: no more than are promised; so many compareAll() makes.
    private static int calls;
    private static final int MOST_CALLS = 512;
    private static final int ALL = 5 + 2 * 32 + 1 + 3;

    public static void main(String[] args) {
        int runs = args.length > 0 ? Integer.parseInt(args[0]) : 6000;
        for (int run = 0; run < runs; run++) {
            seed = run * 7919L + 1;
            next(2);
            oneRun();
        }
        System.out.println("ModelTest: " + good + " of " + loads + " texts without a fault; faults 1 to 6: " + FAULTS[1]
                + " " + FAULTS[2] + " " + FAULTS[3] + " " + FAULTS[4] + " " + FAULTS[5] + " " + FAULTS[6] + "; stops 2, 3: "
                + STOPS[2] + " " + STOPS[3] + "; GO's fired: " + fired);
        // The runs must reach all that they are there for.
        for (int kind = 1; kind <= 6; kind++) {
            Check.same("faults of kind " + kind, FAULTS[kind] > 0, true);
        }
        Check.same("stops", STOPS[2] > 0 && STOPS[3] > 0 && fired > 0 && good > runs / 4, true);
        Check.end("ModelTest");
    }

    private static int next(int n) {
        seed = seed * 6364136223846793005L + 1442695040888963407L;
        return (int) ((seed >>> 33) % n);
    }

    private static String any(String... of) {
        return of[next(of.length)];
    }

    private static String operand() {
        int i = next(4);
        return any("I" + i, "I" + i, "Q" + i, "M" + i, "M" + i, "W" + i, "W" + i, "T" + i % 2, "TE" + i % 2, "C" + i % 2,
                "CV" + i % 2, "X" + next(5), "M0" + i, any(NUMBERS), any(NUMBERS));
    }

    private static String bit() {
        return any("Q", "M") + any("0", "1", "2", "3", "31", "02");
    }

    private static String instruction() {
        int kind = next(open > 0 ? 9 : 12);
        switch (kind) {
            case 0: return "LD " + operand();
            case 1: return any("LD I", "LDN I", "LD X") + next(3);
            case 2: return any(CALC) + " " + operand();
            case 3: return any("ST", "STN") + " " + any(bit(), "W" + next(4));
            case 4: return any("S", "R") + " " + bit();
            case 5: return any("TON", "TOF", "TP") + " T" + next(2) + " " + any("0", "1", "3", "5", "8", "1000000");
            case 6: return any("CTU", "CTD") + " C" + next(2) + " " + any("0", "1", "3", "32767");
            case 7: return any("CLR C" + next(2), "RISE E" + next(2), "FALL E" + next(2), "RISE E15", "NOT");
            case 8: {
                if (open > 0 && next(2) == 0) {
                    open--;
                    return ")";
                }
                open++;
                return any(CALC) + "(";
            }
            case 9: return any("JMP", "JMPC", "JMPCN") + " L" + next(4);
            case 10: return any("RET", "RETC", "RETCN", "NOT", "LD 1", "LD 0");
            default: return "LD " + operand();
        }
    }

    private static String step(int i) {
        StringBuilder s = new StringBuilder("STEP " + i);
        for (int k = next(4); k > 0; k--) {
            s.append(' ').append(any("N", "S", "R")).append(' ').append(bit());
        }
        return s.toString();
    }

    private static String go() {
        StringBuilder s = new StringBuilder("GO");
        for (int k = next(5) / 2; k >= 0; k--) {
            s.append(' ').append(next(5));
        }
        s.append(" TO");
        for (int k = next(3); k >= 0; k--) {
            s.append(' ').append(next(5));
        }
        if (next(2) == 0) {
            s.append(any(" IF ", " IFN ")).append(operand());
        }
        return s.toString();
    }

    private static String text() {
        StringBuilder s = new StringBuilder();
        open = 0;
        int label = 0;
        int lines = any("1", "5", "20").equals("5") ? next(90) : 3 + next(20);
        boolean chart = next(4) > 0;
        int lost = next(30);
        for (int i = 0; chart && i < 5; i++) {
            s.append(i == lost ? "" : step(i)).append(';');
        }
        for (int k = 0; k < lines && s.length() < 640; k++) {
            boolean careless = next(150) == 0;
            if ((open == 0 || careless) && label < 4 && next(4) == 0) {
                s.append('L').append(label++).append(":").append(any(" ", " ", ";", "\n"));
            }
            boolean goes = chart && (open == 0 || careless) && next(3) == 0;
            s.append(goes ? go() : careless ? any(")", "RET", "JMP L0", "AND(;AND(") : instruction()).append(any(";", "; ", " ;", ";\n"));
        }
        int forgotten = next(20);
        for (; open > 0 && forgotten != 0; open--) {
            s.append(");");
        }
        for (; label < 4 && forgotten > 1; label++) {
            s.append('L').append(label).append(":;");
        }
        return s.toString();
    }

    /** Now and then a word is put in, changed or taken away, or a byte is. */
    private static String spoiled(String text) {
        StringBuilder s = new StringBuilder(text);
        for (int k = next(8) < 5 ? 0 : 1 + next(2); k > 0 && s.length() > 0; k--) {
            int i = next(s.length());
            int kind = next(6);
            if (kind == 0) {
                s.setCharAt(i, (char) next(256));
            } else if (kind == 1) {
                s.deleteCharAt(i);
            } else if (kind == 2) {
                s.insert(i, any(" ", ";", "1", "(", "N", "-", ":"));
            } else {
                int from = s.lastIndexOf(" ", i) + 1;
                int to = s.indexOf(" ", i + 1);
                String word = any(ODD);
                if (kind == 3 && to > from) {
                    s.replace(from, to, word);
                } else {
                    s.insert(from, word + " ");
                }
            }
        }
        return s.toString();
    }

    private static void oneRun() {
        ScanChart x = new ScanChart();
        Model m = new Model();
        history = "";
        calls = 0;
        reload(x, m);
        someCalls(x, m);
        if (next(2) == 0 && calls + 120 + 2 * ALL <= MOST_CALLS) {
            reload(x, m);
            someCalls(x, m);
        }
        compareAll(x, m);
        Check.same("calls of one object beyond the promised", calls > MOST_CALLS, false);
    }

    /** Some calls, as long as there are enough left to compare all in the end. */
    private static void someCalls(ScanChart x, Model m) {
        for (int k = next(60); k > 0 && calls + 3 + ALL <= MOST_CALLS; k--) {
            call(x, m);
        }
    }

    private static void reload(ScanChart x, Model m) {
        if (next(8) > 0) {
            say("wipe", x.wipe(), m.wipe());
        }
        String text = spoiled(text());
        history = history + "\n  " + text;
        for (int i = 0; i < text.length();) {
            int n = Math.min(next(3) == 0 ? 1 + next(8) : 8, text.length() - i);
            long piece = 0;
            for (int k = 0; k < 8; k++) {
                piece |= (long) (k < n ? text.charAt(i + k) : next(256)) << 8 * k;
            }
            say("feed", x.feed(n, piece), m.feed(n, piece));
            i += n;
        }
        int got = load(x, m);
        loads++;
        FAULTS[m.fault()]++;
        good += got >= 0 ? 1 : 0;
    }

    /** A load, and all that can be seen right behind it. */
    private static int load(ScanChart x, Model m) {
        int got = x.load();
        say("load", got, m.load());
        say("fault", x.fault(), m.fault());
        say("place", x.place(), m.place());
        compareIfEnoughLeft(x, m);
        return got;
    }

    private static void call(ScanChart x, Model m) {
        int kind = next(10);
        int ticks = next(20) == 0 ? 1000000 : next(5);
        if (kind < 4) {
            int i = next(4);
            boolean is = next(2) == 0;
            x.input(i, is);
            m.input(i, is);
            calls++;
            history = history + " " + (is ? "+" : "-") + i;
        } else if (kind < 8) {
            history = history + " s" + ticks;
            int got = x.scan(ticks);
            say("scan", got, m.scan(ticks));
            STOPS[Math.max(0, got)]++;
            say("fired", x.fired(), m.fired());
            fired += m.fired();
        } else if (kind == 8) {
            int n = next(6);
            history = history + " r" + n + "*" + ticks;
            say("run", x.run(n, ticks), m.run(n, ticks));
        } else if (next(6) == 0) {
            history = history + " reset";
            x.reset();
            m.reset();
            calls++;
            compareIfEnoughLeft(x, m);
        } else if (next(6) == 0) {
            history = history + " load";
            load(x, m);
        } else {
            compareIfEnoughLeft(x, m);
        }
    }

    private static void compareIfEnoughLeft(ScanChart x, Model m) {
        if (calls + 3 + 2 * ALL <= MOST_CALLS) {
            compareAll(x, m);
        }
    }

    private static void compareAll(ScanChart x, Model m) {
        for (int kind = 0; kind <= 4; kind++) {
            say("bits " + kind, x.bits(kind), m.bits(kind));
        }
        for (int i = 0; i < 32; i++) {
            say("word " + i, x.word(i), m.word(i));
            say("block " + i % 8 + " " + i / 8, x.block(i % 8, i / 8), m.block(i % 8, i / 8));
        }
        int output = next(32);
        say("output " + output, x.output(output) ? 1 : 0, m.output(output) ? 1 : 0);
        say("done", x.done(), m.done());
        say("fired", x.fired(), m.fired());
        say("time", x.time(), m.time());
    }

    /** Compares the answers of one call. */
    private static void say(String what, long got, long due) {
        calls++;
        Check.same(got == due ? what : what + " in" + history, got, due);
    }
}
