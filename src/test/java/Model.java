import java.util.ArrayDeque;
import java.util.ArrayList;
import java.util.Deque;
import java.util.HashMap;
import java.util.List;
import java.util.Map;
import java.util.TreeMap;

/**
 * The document read a second time, in another way: words by patterns, all faults gathered and the
 * least taken, and timers, counters and edges worked out from all that their instructions saw.
 */
final class Model {
    private static final String CALC = "AND|ANDN|OR|ORN|XOR|XORN|ADD|SUB|MUL|DIV|MOD|GT|GE|EQ|NE|LE|LT";
    private static final String NAMED = "(?:I|Q|M|W|T|TE|C|CV|X)[0-9]+";
    private static final Map<String, Integer> RANGE = new HashMap<>();

    static {
        for (String s : "I Q M W L".split(" ")) {
            RANGE.put(s, 32);
        }
        for (String s : "T TE C CV".split(" ")) {
            RANGE.put(s, 8);
        }
        for (String s : "X E".split(" ")) {
            RANGE.put(s, 16);
        }
    }

    private record Word(String text, int place) { }

    private record Seen(long time, boolean is, int number) { }

    private static final class Line {
        String label;
        List<String> words = new ArrayList<>();
    }

    private final StringBuilder text = new StringBuilder();
    private List<Line> program = new ArrayList<>();
    private int fault;
    private int place = -1;
    private final boolean[] inputs = new boolean[32];
    private Map<String, Integer> cells = new HashMap<>();
    private Map<String, List<Seen>> past = new HashMap<>();
    private int outputs;
    private long time;
    private int stop;
    private int done;
    private int fired;

    Model() {
        reset();
    }

    int feed(int n, long bytes) {
        if (text.length() + n > 700) {
            return -1;
        }
        for (int k = 0; k < n; k++) {
            text.append((char) (bytes >> 8 * k & 255));
        }
        return text.length();
    }

    int wipe() {
        int had = text.length();
        text.setLength(0);
        return had;
    }

    int fault() {
        return fault;
    }

    int place() {
        return place;
    }

    void reset() {
        cells = new HashMap<>();
        cells.put("X0", 1);
        past = new HashMap<>();
        outputs = 0;
        time = 0;
        stop = 0;
        done = 0;
        fired = 0;
    }

    void input(int i, boolean is) {
        inputs[i] = is;
    }

    boolean output(int i) {
        return (outputs >> i & 1) == 1;
    }

    int bits(int kind) {
        if (kind == 4) {
            return outputs;
        }
        int mask = 0;
        for (int i = 0; i < 32; i++) {
            mask |= get("IQMX".charAt(kind) + "" + i) << i;
        }
        return mask;
    }

    int word(int i) {
        return get("W" + i);
    }

    int block(int i, int what) {
        return get(new String[] {"T", "TE", "C", "CV"}[what] + i);
    }

    int done() {
        return done;
    }

    int fired() {
        return fired;
    }

    long time() {
        return time;
    }

    // ---- reading

    private TreeMap<Integer, Integer> faults;
    private int instructions;
    private int goes;
    private int open;

    /** Of several faults at one place the least stays. */
    private void found(int kind, int where) {
        faults.merge(where, kind, Math::min);
    }

    int load() {
        faults = new TreeMap<>();
        instructions = 0;
        goes = 0;
        open = 0;
        List<Line> lines = new ArrayList<>();
        List<Word> words = new ArrayList<>();
        List<Word> mentions = new ArrayList<>();
        Map<String, Boolean> there = new HashMap<>();
        int begin = -1;
        for (int i = 0; i <= text.length(); i++) {
            char c = i < text.length() ? text.charAt(i) : ';';
            if (begin >= 0 && (c == ';' || c <= ' ')) {
                words.add(new Word(text.substring(begin, i), begin));
                begin = -1;
            } else if (begin < 0 && c != ';' && c > ' ') {
                begin = i;
            }
            if (i == text.length()) {
                if (!words.isEmpty()) {
                    line(words, i, mentions, there);
                    found(1, i);
                } else if (open > 0) {
                    found(5, i);
                }
            } else if (c == ';') {
                lines.add(line(words, i, mentions, there));
                words.clear();
            }
            if (!faults.isEmpty()) {
                break;
            }
        }
        if (faults.isEmpty()) {
            for (Word w : mentions) {
                if (!there.containsKey(w.text)) {
                    found(6, w.place);
                    break;
                }
            }
        }
        if (!faults.isEmpty()) {
            place = faults.firstKey();
            fault = faults.get(place);
            return -1;
        }
        place = -1;
        fault = 0;
        program = lines;
        reset();
        return instructions;
    }

    private Line line(List<Word> words, int end, List<Word> mentions, Map<String, Boolean> there) {
        Line line = new Line();
        int k = 0;
        if (k < words.size() && words.get(k).text.matches("L[0-9]+:")) {
            Word w = words.get(k++);
            String figures = w.text.substring(1, w.text.length() - 1);
            if (tooLarge(figures, 32)) {
                found(2, w.place);
            } else {
                line.label = "L" + Integer.parseInt(figures);
                if (there.put(line.label, true) != null) {
                    found(4, w.place);
                }
            }
            if (open > 0) {
                found(5, w.place);
            }
        }
        if (k == words.size()) {
            return line;
        }
        Word first = words.get(k++);
        line.words.add(first.text);
        List<String> patterns = patterns(first.text, words, k);
        if (patterns == null) {
            found(1, first.place);
            return line;
        }
        counts(first);
        for (String pattern : patterns) {
            if (k >= words.size()) {
                found(1, end);
                return line;
            }
            Word w = words.get(k++);
            if (!w.text.matches(pattern)) {
                found(1, w.place);
                return line;
            }
            boolean condition = line.words.contains("IF") || line.words.contains("IFN");
            String inside = condition ? "IF" : first.text;
            line.words.add(plain(w, inside));
            if (tooLargeWord(w.text, inside)) {
                found(2, w.place);
                return line;
            }
            if (first.text.startsWith("JMP")) {
                mentions.add(new Word("L" + number(w.text), w.place));
            } else if (inside.equals("GO") && w.text.matches("[0-9]+")) {
                mentions.add(new Word("STEP" + number(w.text), w.place));
            } else if (first.text.equals("STEP") && line.words.size() == 2) {
                if (there.put("STEP" + number(w.text), true) != null) {
                    found(4, w.place);
                }
            }
        }
        if (k < words.size()) {
            found(1, words.get(k).place);
        }
        return line;
    }

    private void counts(Word first) {
        boolean chart = first.text.equals("STEP") || first.text.equals("GO");
        if (!chart && ++instructions > 80) {
            found(3, first.place);
        }
        if (first.text.equals("GO") && ++goes > 16) {
            found(3, first.place);
        }
        if (open > 0 && (chart || first.text.startsWith("JMP") || first.text.startsWith("RET"))) {
            found(5, first.place);
        }
        if (first.text.endsWith("(") && ++open > 8) {
            found(5, first.place);
        }
        if (first.text.equals(")") && --open < 0) {
            found(5, first.place);
        }
    }

    /** A pattern for each word that must follow; null when no line begins so. */
    private static List<String> patterns(String first, List<Word> words, int k) {
        String operand = NAMED + "|-?[0-9]+";
        if (first.matches("LD|LDN|" + CALC)) {
            return List.of(operand);
        }
        if (first.matches("(" + CALC + ")\\(|\\)|NOT|RET|RETC|RETCN")) {
            return List.of();
        }
        switch (first) {
            case "ST": case "STN":
                return List.of("[QMW][0-9]+");
            case "S": case "R":
                return List.of("[QM][0-9]+");
            case "JMP": case "JMPC": case "JMPCN":
                return List.of("L[0-9]+");
            case "TON": case "TOF": case "TP":
                return List.of("T[0-9]+", "[0-9]+");
            case "CTU": case "CTD":
                return List.of("C[0-9]+", "[0-9]+");
            case "CLR":
                return List.of("C[0-9]+");
            case "RISE": case "FALL":
                return List.of("E[0-9]+");
            case "STEP": {
                List<String> all = new ArrayList<>(List.of("[0-9]+"));
                for (int a = 0; a < 3 && k + 1 + 2 * a < words.size(); a++) {
                    all.add("[NSR]");
                    all.add("[QM][0-9]+");
                }
                return all;
            }
            case "GO": {
                List<String> all = new ArrayList<>();
                int at = run(all, words, k);
                all.add("TO");
                at = run(all, words, at + 1);
                if (at < words.size()) {
                    all.add("IFN?");
                    all.add(operand);
                }
                return all;
            }
            default:
                return null;
        }
    }

    /** One to three numbers, as many as there are; answers where the next word is. */
    private static int run(List<String> patterns, List<Word> words, int k) {
        int n = 0;
        while (n < 3 && k < words.size() && words.get(k).text.matches("[0-9]+")) {
            n++;
            k++;
        }
        for (int i = 0; i < Math.max(1, n); i++) {
            patterns.add("[0-9]+");
        }
        return k;
    }

    private static boolean tooLarge(String figures, int range) {
        return figures.length() > 2 || Integer.parseInt(figures) >= range;
    }

    private static boolean tooLargeWord(String word, String first) {
        String letters = word.replaceAll("[0-9]+$", "");
        String figures = word.substring(letters.length());
        if (figures.isEmpty()) {
            return false;
        }
        if (RANGE.containsKey(letters)) {
            return tooLarge(figures, RANGE.get(letters));
        }
        java.math.BigInteger n = new java.math.BigInteger(word);
        if (first.startsWith("T")) {
            return n.compareTo(java.math.BigInteger.valueOf(1000000)) > 0;
        }
        if (first.startsWith("CT")) {
            return n.compareTo(java.math.BigInteger.valueOf(32767)) > 0;
        }
        if (first.equals("STEP") || first.equals("GO")) {
            return tooLarge(figures, 16);
        }
        return n.bitLength() > 31;
    }

    private String plain(Word w, String first) {
        String letters = w.text.replaceAll("[0-9]+$", "");
        if (letters.length() < w.text.length() && !letters.equals("-") && !letters.isEmpty()
                && !tooLargeWord(w.text, first)) {
            return letters + number(w.text);
        }
        return w.text;
    }

    private static int number(String word) {
        String figures = word.replaceAll("^[A-Z]+", "");
        return figures.length() > 9 ? Integer.MAX_VALUE : Integer.parseInt(figures);
    }

    // ---- scanning

    private int get(String cell) {
        return cells.getOrDefault(cell, 0);
    }

    private int value(String operand) {
        return Character.isLetter(operand.charAt(0)) ? get(operand) : (int) Long.parseLong(operand);
    }

    int run(int n, int ticks) {
        int ended = 0;
        while (ended < n && scan(ticks) == 0) {
            ended++;
        }
        return ended;
    }

    int scan(int ticks) {
        if (stop != 0) {
            return -1;
        }
        time += ticks;
        for (int i = 0; i < 32; i++) {
            cells.put("I" + i, inputs[i] ? 1 : 0);
        }
        fired = 0;
        done = 0;
        list();
        if (stop != 0) {
            return stop;
        }
        chart();
        actions();
        outputs = bits(1);
        return 0;
    }

    private void list() {
        int result = 0;
        Deque<Object[]> aside = new ArrayDeque<>();
        for (int at = 0; at < program.size(); at++) {
            List<String> words = program.get(at).words;
            if (words.isEmpty() || words.get(0).equals("STEP") || words.get(0).equals("GO")) {
                continue;
            }
            if (done == 500) {
                stop = 3;
                return;
            }
            String word = words.get(0);
            if (word.endsWith("(")) {
                aside.push(new Object[] {word.substring(0, word.length() - 1), result});
                result = 0;
            } else if (word.startsWith("JMP") || word.startsWith("RET")) {
                String how = word.substring(3);
                if (how.isEmpty() || how.equals("C") && result != 0 || how.equals("CN") && result == 0) {
                    at = word.startsWith("RET") ? program.size() : find(words.get(1)) - 1;
                }
            } else {
                String operand = words.size() > 1 ? words.get(1) : "";
                int v = 0;
                if (word.equals(")")) {
                    Object[] was = aside.pop();
                    word = (String) was[0];
                    v = result;
                    result = (Integer) was[1];
                } else if (word.matches("LD|LDN|" + CALC)) {
                    v = value(operand);
                }
                if (word.matches("LDN|ANDN|ORN|XORN")) {
                    v = v == 0 ? 1 : 0;
                    word = word.substring(0, word.length() - 1);
                }
                if (word.matches("DIV|MOD") && v == 0) {
                    stop = 2;
                    return;
                }
                result = word.matches("LD|" + CALC) ? calculated(word, result, v) : other(words, result);
            }
            done++;
        }
    }

    private int find(String label) {
        for (int k = 0; k < program.size(); k++) {
            if (label.equals(program.get(k).label)) {
                return k;
            }
        }
        throw new AssertionError(label);
    }

    private static int calculated(String word, int a, int v) {
        long wide = 0;
        switch (word) {
            case "LD": wide = v; break;
            case "AND": wide = a & v; break;
            case "OR": wide = a | v; break;
            case "XOR": wide = a ^ v; break;
            case "ADD": wide = (long) a + v; break;
            case "SUB": wide = (long) a - v; break;
            case "MUL": wide = (long) a * v; break;
            case "DIV": wide = (long) a / v; break;
            case "MOD": wide = (long) a % v; break;
            case "GT": wide = a > v ? 1 : 0; break;
            case "GE": wide = a >= v ? 1 : 0; break;
            case "EQ": wide = a == v ? 1 : 0; break;
            case "NE": wide = a != v ? 1 : 0; break;
            case "LE": wide = a <= v ? 1 : 0; break;
            case "LT": wide = a < v ? 1 : 0; break;
            default: throw new AssertionError(word);
        }
        return (int) wide;
    }

    private int other(List<String> words, int result) {
        String word = words.get(0);
        String cell = words.size() > 1 ? words.get(1) : "";
        int p = words.size() > 2 ? Integer.parseInt(words.get(2)) : 0;
        boolean is = result != 0;
        switch (word) {
            case "NOT":
                return is ? 0 : 1;
            case "ST":
                cells.put(cell, cell.startsWith("W") ? result : is ? 1 : 0);
                return result;
            case "STN":
                cells.put(cell, is ? 0 : 1);
                return result;
            case "S": case "R":
                if (is) {
                    cells.put(cell, word.equals("S") ? 1 : 0);
                }
                return result;
            case "CLR":
                if (is) {
                    cells.put("CV" + cell.substring(1), 0);
                }
                return result;
            default:
                break;
        }
        List<Seen> seen = past.computeIfAbsent(word + " " + cell, key -> new ArrayList<>());
        boolean had = !seen.isEmpty() && seen.get(seen.size() - 1).is;
        seen.add(new Seen(time, is, p));
        if (word.equals("RISE")) {
            return is && !had ? 1 : 0;
        }
        if (word.equals("FALL")) {
            return !is && had ? 1 : 0;
        }
        if (word.startsWith("CT")) {
            String cv = "CV" + cell.substring(1);
            if (is && !had) {
                cells.put(cv, word.equals("CTU") ? Math.min(32767, get(cv) + 1) : Math.max(-32768, get(cv) - 1));
            }
            cells.put(cell, (word.equals("CTU") ? get(cv) >= p : get(cv) <= 0) ? 1 : 0);
        } else {
            int[] now = word.equals("TON") ? on(seen) : word.equals("TOF") ? off(seen) : pulse(seen);
            cells.put(cell, now[0]);
            cells.put("TE" + cell.substring(1), now[1]);
        }
        return get(cell);
    }

    private int[] on(List<Seen> seen) {
        Seen last = seen.get(seen.size() - 1);
        if (!last.is) {
            return new int[] {0, 0};
        }
        int k = seen.size() - 1;
        while (k > 0 && seen.get(k - 1).is) {
            k--;
        }
        long te = Math.min(last.number, time - seen.get(k).time);
        return new int[] {te == last.number ? 1 : 0, (int) te};
    }

    private int[] off(List<Seen> seen) {
        Seen last = seen.get(seen.size() - 1);
        int k = seen.size() - 1;
        while (k >= 0 && !seen.get(k).is) {
            k--;
        }
        if (k < 0) {
            return new int[] {0, 0};
        }
        if (last.is) {
            return new int[] {1, 0};
        }
        long te = Math.min(last.number, time - seen.get(k + 1).time);
        return new int[] {te < last.number ? 1 : 0, (int) te};
    }

    private int[] pulse(List<Seen> seen) {
        long began = -1;
        boolean had = false;
        int[] now = {0, 0};
        for (Seen s : seen) {
            if (began < 0 && s.is && !had) {
                began = s.time;
            }
            had = s.is;
            now = new int[] {0, 0};
            if (began >= 0) {
                long te = Math.min(s.number, s.time - began);
                now = new int[] {te < s.number ? 1 : 0, (int) te};
                if (te == s.number && !s.is) {
                    began = -1;
                    now[1] = 0;
                }
            }
        }
        return now;
    }

    private void chart() {
        List<Integer> atBegin = new ArrayList<>();
        for (int i = 0; i < 16; i++) {
            if (get("X" + i) == 1) {
                atBegin.add(i);
            }
        }
        List<Integer> left = new ArrayList<>();
        List<Integer> entered = new ArrayList<>();
        for (Line line : program) {
            if (line.words.isEmpty() || !line.words.get(0).equals("GO")) {
                continue;
            }
            List<Integer> before = new ArrayList<>();
            List<Integer> behind = new ArrayList<>();
            int k = 1;
            for (; !line.words.get(k).equals("TO"); k++) {
                before.add(Integer.parseInt(line.words.get(k)));
            }
            for (k++; k < line.words.size() && !line.words.get(k).startsWith("IF"); k++) {
                behind.add(Integer.parseInt(line.words.get(k)));
            }
            boolean fires = atBegin.containsAll(before) && before.stream().noneMatch(left::contains);
            if (k < line.words.size()) {
                fires &= line.words.get(k).equals("IF") == (value(line.words.get(k + 1)) != 0);
            }
            if (fires) {
                fired++;
                left.addAll(before);
                entered.addAll(behind);
                before.forEach(s -> cells.put("X" + s, 0));
            }
        }
        entered.forEach(s -> cells.put("X" + s, 1));
    }

    private void actions() {
        TreeMap<Integer, List<String>> steps = new TreeMap<>();
        for (Line line : program) {
            if (!line.words.isEmpty() && line.words.get(0).equals("STEP")) {
                steps.put(Integer.parseInt(line.words.get(1)), line.words.subList(2, line.words.size()));
            }
        }
        Map<String, Integer> told = new HashMap<>();
        steps.forEach((step, acts) -> {
            for (int k = 0; k < acts.size(); k += 2) {
                if (acts.get(k).equals("N")) {
                    told.merge(acts.get(k + 1), get("X" + step), Math::max);
                }
            }
        });
        cells.putAll(told);
        steps.forEach((step, acts) -> {
            for (int k = 0; k < acts.size(); k += 2) {
                if (get("X" + step) == 1 && !acts.get(k).equals("N")) {
                    cells.put(acts.get(k + 1), acts.get(k).equals("S") ? 1 : 0);
                }
            }
        });
    }
}
