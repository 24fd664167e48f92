/**
 * A controller that goes round: each scan takes over the inputs, runs a list of instructions, lets
 * a chart of steps go on and gives out the outputs. List and chart are read from one text.
 */
public final class ScanChart {
    public static final int NONE = -1;

    private static final int MOST_TEXT = 700;
    private static final int MOST_INSTRUCTIONS = 80;
    private static final int MOST_GOS = 16;
    private static final int MOST_OPEN = 8;
    private static final int MOST_DONE = 500;
    private static final int MOST_TICKS = 1000000;
    private static final int MOST_SCANS = 100;
    private static final int MOST_COUNT = 32767;
    private static final int LEAST_COUNT = -32768;
    private static final int MOST_NAMED_STEPS = 3;
    private static final int MOST_ACTIONS = 3;

    private static final int BITS = 32;
    private static final int WORDS = 32;
    private static final int LABELS = 32;
    private static final int BLOCKS = 8;
    private static final int STEPS = 16;

    // The first four bear the numbers that bits(kind) takes; all kinds before KIND_W are bits.
    private static final int KIND_I = 0;
    private static final int KIND_Q = 1;
    private static final int KIND_M = 2;
    private static final int KIND_X = 3;
    private static final int KIND_T = 4;
    private static final int KIND_C = 5;
    private static final int KIND_W = 6;
    private static final int KIND_LABEL = 7;
    private static final int KIND_EDGE = 8;
    private static final int KIND_TE = 9;
    private static final int KIND_CV = 10;
    private static final int KIND_NUMBER = 11;
    private static final int KIND_NOTHING = 12;

    private static final int BIT_KINDS = KIND_W;
    private static final int BITS_OF_OUTPUTS = 4;

    // The letters of the kinds with one letter, each at its kind's number.
    private static final String LETTERS = "IQMXTCWLE";
    // How many there are of each kind with a name, at its kind's number.
    private static final int[] RANGES = {32, 32, 32, 16, 8, 8, 32, 32, 16, 8, 8};

    private static final int ONLY_BITS = 1 << KIND_Q | 1 << KIND_M;
    private static final int ONLY_STORES = ONLY_BITS | 1 << KIND_W;
    private static final int ONLY_OPERANDS = ONLY_STORES | 1 << KIND_I | 1 << KIND_X | 1 << KIND_T
            | 1 << KIND_C | 1 << KIND_TE | 1 << KIND_CV | 1 << KIND_NUMBER;

    private static final int FORM_LOAD = 0;
    private static final int FORM_CALCULATE = 1;
    private static final int FORM_STORE = 2;
    private static final int FORM_SET = 3;
    private static final int FORM_CLOSE = 4;
    private static final int FORM_NOT = 5;
    private static final int FORM_JUMP = 6;
    private static final int FORM_RETURN = 7;
    private static final int FORM_TIMER = 8;
    private static final int FORM_COUNTER = 9;
    private static final int FORM_CLEAR = 10;
    private static final int FORM_EDGE = 11;
    private static final int FORM_STEP = 12;
    private static final int FORM_GO = 13;

    private static final int MODE_PLAIN = 0;
    private static final int MODE_N = 1;
    private static final int MODE_C = 2;
    private static final int MODE_CN = 3;

    private static final int FAULT_WORD = 1;
    private static final int FAULT_RANGE = 2;
    private static final int FAULT_MANY = 3;
    private static final int FAULT_TWICE = 4;
    private static final int FAULT_BRACKET = 5;
    private static final int FAULT_MISSING = 6;

    private static final int STOP_ZERO = 2;
    private static final int STOP_LONG = 3;

    private static final int ALWAYS = 0;
    private static final int IF = 1;
    private static final int IFN = 2;

    private static final int NO_ACTION = 0;
    private static final int ACTION_N = 1;
    private static final int ACTION_S = 2;
    private static final int ACTION_R = 3;

    private static final int TOKEN_END = 0;
    private static final int TOKEN_LINE_END = 1;
    private static final int TOKEN_WORD = 2;

    private static final int LAST_BLANK = 32;
    // Of the numbers of cells, edges, labels and steps.
    private static final int MOST_FIGURES = 2;
    private static final int LEAST_NUMBER = -2147483648;
    private static final int MOST_NUMBER = 2147483647;
    // Far above every range, so that a long row of figures can't wrap into one.
    private static final long NUMBER_CAP = 10000000000L;

    private static final Op[] OPS = Op.values();

    private final Reader reader = new Reader();
    private final Machine machine = new Machine();
    private Program program = new Program();
    private int inputs = 0;

    public ScanChart() {
    }

    public int feed(int n, long bytes) throws IllegalArgumentException {
        if (n < 1 || n > 8) {
            throw new IllegalArgumentException("n is not 1 to 8");
        }
        return reader.text.append(n, bytes);
    }

    public int wipe() {
        int had = reader.text.length;
        reader.text.length = 0;
        return had;
    }

    public int load() {
        if (!reader.readText()) {
            return NONE;
        }
        // The old program's rows serve the next reading.
        Program read = reader.program;
        reader.program = program;
        program = read;
        machine.startAgain();
        return program.count;
    }

    public int fault() {
        return reader.faultMet;
    }

    public int place() {
        return reader.faultPlace;
    }

    public void reset() {
        machine.startAgain();
    }

    public void input(int i, boolean is) throws IndexOutOfBoundsException {
        if (i < 0 || i >= BITS) {
            throw new IndexOutOfBoundsException("i is not 0 to 31");
        }
        inputs = withBit(inputs, i, is);
    }

    public int scan(int ticks) throws IllegalArgumentException {
        if (ticks < 0 || ticks > MOST_TICKS) {
            throw new IllegalArgumentException("ticks is not 0 to 1000000");
        }
        if (machine.stop != 0) {
            return NONE;
        }
        machine.goRound(program, inputs, ticks);
        return machine.stop;
    }

    public int run(int n, int ticks) throws IllegalArgumentException {
        if (n < 0 || n > MOST_SCANS) {
            throw new IllegalArgumentException("n is not 0 to 100");
        }
        if (ticks < 0 || ticks > MOST_TICKS) {
            throw new IllegalArgumentException("ticks is not 0 to 1000000");
        }
        int ended = 0;
        for (int k = 0; k < n && machine.stop == 0; k++) {
            machine.goRound(program, inputs, ticks);
            if (machine.stop == 0) {
                ended++;
            }
        }
        return ended;
    }

    public boolean output(int i) throws IndexOutOfBoundsException {
        if (i < 0 || i >= BITS) {
            throw new IndexOutOfBoundsException("i is not 0 to 31");
        }
        return isSet(machine.outputs, i);
    }

    public int bits(int kind) throws IllegalArgumentException {
        if (kind < 0 || kind > BITS_OF_OUTPUTS) {
            throw new IllegalArgumentException("kind is not 0 to 4");
        }
        return kind == BITS_OF_OUTPUTS ? machine.outputs : at(machine.cells.masks, kind);
    }

    public int word(int i) throws IndexOutOfBoundsException {
        if (i < 0 || i >= WORDS) {
            throw new IndexOutOfBoundsException("i is not 0 to 31");
        }
        return machine.cells.valueOf(KIND_W, i);
    }

    public int block(int i, int what) throws IndexOutOfBoundsException, IllegalArgumentException {
        if (i < 0 || i >= BLOCKS) {
            throw new IndexOutOfBoundsException("i is not 0 to 7");
        }
        switch (what) {
            case 0:
                return machine.cells.valueOf(KIND_T, i);
            case 1:
                return machine.cells.valueOf(KIND_TE, i);
            case 2:
                return machine.cells.valueOf(KIND_C, i);
            case 3:
                return machine.cells.valueOf(KIND_CV, i);
            default:
                throw new IllegalArgumentException("what is not 0 to 3");
        }
    }

    public int done() {
        return machine.performed;
    }

    public int fired() {
        return machine.gosFired;
    }

    public long time() {
        return machine.now;
    }

    private static int at(int[] row, int i) {
        return i >= 0 && i < row.length ? row[i] : 0;
    }

    private static void put(int[] row, int i, int value) {
        if (i >= 0 && i < row.length) {
            row[i] = value;
        }
    }

    private static boolean isSet(int mask, int i) {
        return (mask >>> i & 1) != 0;
    }

    private static int withBit(int mask, int i, boolean is) {
        return is ? mask | 1 << i : mask & ~(1 << i);
    }

    private static void fill(int[] row, int value) {
        for (int i = 0; i < row.length; i++) {
            row[i] = value;
        }
    }

    /** The words that may begin a line; those with a bracket behind are found by their word without it. */
    private enum Op {
        LD("LD", FORM_LOAD, MODE_PLAIN),
        LDN("LDN", FORM_LOAD, MODE_N),
        ST("ST", FORM_STORE, MODE_PLAIN),
        STN("STN", FORM_STORE, MODE_N),
        S("S", FORM_SET, MODE_PLAIN),
        R("R", FORM_SET, MODE_PLAIN),
        AND("AND", FORM_CALCULATE, MODE_PLAIN),
        ANDN("ANDN", FORM_CALCULATE, MODE_N),
        OR("OR", FORM_CALCULATE, MODE_PLAIN),
        ORN("ORN", FORM_CALCULATE, MODE_N),
        XOR("XOR", FORM_CALCULATE, MODE_PLAIN),
        XORN("XORN", FORM_CALCULATE, MODE_N),
        ADD("ADD", FORM_CALCULATE, MODE_PLAIN),
        SUB("SUB", FORM_CALCULATE, MODE_PLAIN),
        MUL("MUL", FORM_CALCULATE, MODE_PLAIN),
        DIV("DIV", FORM_CALCULATE, MODE_PLAIN),
        MOD("MOD", FORM_CALCULATE, MODE_PLAIN),
        GT("GT", FORM_CALCULATE, MODE_PLAIN),
        GE("GE", FORM_CALCULATE, MODE_PLAIN),
        EQ("EQ", FORM_CALCULATE, MODE_PLAIN),
        NE("NE", FORM_CALCULATE, MODE_PLAIN),
        LE("LE", FORM_CALCULATE, MODE_PLAIN),
        LT("LT", FORM_CALCULATE, MODE_PLAIN),
        CLOSE(")", FORM_CLOSE, MODE_PLAIN),
        NOT("NOT", FORM_NOT, MODE_PLAIN),
        JMP("JMP", FORM_JUMP, MODE_PLAIN),
        JMPC("JMPC", FORM_JUMP, MODE_C),
        JMPCN("JMPCN", FORM_JUMP, MODE_CN),
        RET("RET", FORM_RETURN, MODE_PLAIN),
        RETC("RETC", FORM_RETURN, MODE_C),
        RETCN("RETCN", FORM_RETURN, MODE_CN),
        TON("TON", FORM_TIMER, MODE_PLAIN),
        TOF("TOF", FORM_TIMER, MODE_PLAIN),
        TP("TP", FORM_TIMER, MODE_PLAIN),
        CTU("CTU", FORM_COUNTER, MODE_PLAIN),
        CTD("CTD", FORM_COUNTER, MODE_PLAIN),
        CLR("CLR", FORM_CLEAR, MODE_PLAIN),
        RISE("RISE", FORM_EDGE, MODE_PLAIN),
        FALL("FALL", FORM_EDGE, MODE_PLAIN),
        STEP("STEP", FORM_STEP, MODE_PLAIN),
        GO("GO", FORM_GO, MODE_PLAIN);

        final String spelling;
        final int form;
        final int mode;

        Op(String spelling, int form, int mode) {
            this.spelling = spelling;
            this.form = form;
            this.mode = mode;
        }

        /** The value as this word counts it: with N behind the word, the other way. */
        int counts(int value) {
            if (mode == MODE_N) {
                return value == 0 ? 1 : 0;
            }
            return value;
        }

        boolean isBlock() {
            return form == FORM_TIMER || form == FORM_COUNTER || form == FORM_CLEAR || form == FORM_EDGE;
        }

        /** Whether a jump or return of this word is taken with that result. */
        boolean isTaken(int result) {
            return mode == MODE_PLAIN || (mode == MODE_C) == (result != 0);
        }
    }

    /** The bytes fed, each as 0 to 255. */
    private static final class Text {
        final int[] bytes = new int[MOST_TEXT];
        int length = 0;

        int append(int n, long source) {
            if (length + n > MOST_TEXT) {
                return NONE;
            }
            for (int k = 0; k < n; k++) {
                put(bytes, length + k, (int) (source >>> 8 * k & 255));
            }
            length += n;
            return length;
        }

        int byteAt(int i) {
            return i >= 0 && i < length && i < bytes.length ? bytes[i] : 0;
        }

        boolean spells(String word, int begin, int end) {
            if (word.length() != end - begin) {
                return false;
            }
            for (int k = 0; k < word.length(); k++) {
                if (byteAt(begin + k) != word.charAt(k)) {
                    return false;
                }
            }
            return true;
        }

        /** The number that the figures there tell, but not above the cap; NONE when they aren't figures alone. */
        long numberIn(int begin, int end) {
            if (begin >= end) {
                return NONE;
            }
            long number = 0;
            for (int i = begin; i < end; i++) {
                int figure = byteAt(i) - '0';
                if (figure < 0 || figure > 9) {
                    return NONE;
                }
                number = Math.min(number * 10 + figure, NUMBER_CAP);
            }
            return number;
        }
    }

    /** The list of instructions with its labels, and the chart. */
    private static final class Program {
        final Chart chart = new Chart();
        final Op[] ops = new Op[MOST_INSTRUCTIONS];
        final int[] kinds = new int[MOST_INSTRUCTIONS];
        final int[] numbers = new int[MOST_INSTRUCTIONS];
        final int[] limits = new int[MOST_INSTRUCTIONS];
        final int[] labels = new int[LABELS];
        int count = 0;

        void clear() {
            count = 0;
            fill(labels, NONE);
            chart.clear();
        }

        void add(Op op, int kind, int number, int limit) {
            if (count < 0 || count >= ops.length) {
                return;
            }
            ops[count] = op;
            put(kinds, count, kind);
            put(numbers, count, number);
            put(limits, count, limit);
            count++;
        }

        Op opAt(int i) {
            return i >= 0 && i < ops.length ? ops[i] : null;
        }
    }

    /** The steps with their actions, and the GO's in their order. */
    private static final class Chart {
        final int[] goBefore = new int[MOST_GOS];
        final int[] goBehind = new int[MOST_GOS];
        final int[] goConditions = new int[MOST_GOS];
        final int[] goKinds = new int[MOST_GOS];
        final int[] goNumbers = new int[MOST_GOS];
        int goCount = 0;
        // Each step has MOST_ACTIONS places of its own in these rows.
        final int[] actions = new int[STEPS * MOST_ACTIONS];
        final int[] actionKinds = new int[STEPS * MOST_ACTIONS];
        final int[] actionNumbers = new int[STEPS * MOST_ACTIONS];
        int steps = 0;

        void clear() {
            goCount = 0;
            steps = 0;
            fill(actions, NO_ACTION);
        }

        void addGo(int before, int behind, int condition, int kind, int number) {
            put(goBefore, goCount, before);
            put(goBehind, goCount, behind);
            put(goConditions, goCount, condition);
            put(goKinds, goCount, kind);
            put(goNumbers, goCount, number);
            goCount++;
        }

        void addAction(int step, int k, int action, int kind, int number) {
            int i = step * MOST_ACTIONS + k;
            put(actions, i, action);
            put(actionKinds, i, kind);
            put(actionNumbers, i, number);
        }
    }

    /** Reads the text into a program, word by word, up to the first fault. */
    private static final class Reader {
        final Text text = new Text();
        Program program = new Program();
        int faultMet = 0;
        int faultPlace = NONE;
        // The token looked at: its kind, where it begins and ends, where its last row of figures begins.
        private int token;
        private int from;
        private int to;
        private int figures;
        // Whether the line's word has a bracket behind, and how many are open.
        private boolean opens;
        private int open;
        // What the last cell or number read was.
        private int gotKind;
        private int gotNumber;
        // Where each label and step was named first.
        private final int[] labelNamed = new int[LABELS];
        private final int[] stepNamed = new int[STEPS];

        /** Tells whether there is no fault. */
        boolean readText() {
            program.clear();
            fill(labelNamed, NONE);
            fill(stepNamed, NONE);
            faultMet = 0;
            faultPlace = NONE;
            open = 0;
            to = 0;
            advance();
            // Each line takes a byte at least.
            for (int line = 0; line <= MOST_TEXT && token != TOKEN_END; line++) {
                boolean fine = !isLabel() || readLabel();
                if (fine && token == TOKEN_WORD) {
                    Op op = readOp();
                    fine = op != null && (op.form == FORM_GO ? readGo()
                            : op.form == FORM_STEP ? readStep() : readOperands(op));
                }
                if (!fine) {
                    return false;
                }
                if (token != TOKEN_LINE_END) {
                    return fail(FAULT_WORD);
                }
                advance();
            }
            return open > 0 ? fail(FAULT_BRACKET) : findNoneMissing();
        }

        private boolean fail(int kind) {
            faultMet = kind;
            faultPlace = from;
            return false;
        }

        private boolean failAt(int kind, int place) {
            faultMet = kind;
            faultPlace = place;
            return false;
        }

        private void advance() {
            from = to;
            while (from < text.length && text.byteAt(from) <= LAST_BLANK) {
                from++;
            }
            to = from;
            while (to < text.length && text.byteAt(to) > LAST_BLANK && text.byteAt(to) != ';') {
                to++;
            }
            if (to > from) {
                token = TOKEN_WORD;
            } else if (from < text.length) {
                token = TOKEN_LINE_END;
                to = from + 1;
            } else {
                token = TOKEN_END;
            }
            figures = to;
            while (figures > from && text.byteAt(figures - 1) >= '0' && text.byteAt(figures - 1) <= '9') {
                figures--;
            }
        }

        private boolean isWord(String word) {
            return token == TOKEN_WORD && text.spells(word, from, to);
        }

        private boolean isFigures() {
            return token == TOKEN_WORD && figures == from;
        }

        private boolean isLabel() {
            return token == TOKEN_WORD && text.byteAt(from) == 'L' && text.byteAt(to - 1) == ':'
                    && text.numberIn(from + 1, to - 1) != NONE;
        }

        private boolean readLabel() {
            long number = text.numberIn(from + 1, to - 1);
            if (to - from - 2 > MOST_FIGURES || number < 0 || number >= LABELS) {
                return fail(FAULT_RANGE);
            }
            int label = (int) number;
            if (at(program.labels, label) != NONE) {
                return fail(FAULT_TWICE);
            }
            if (open > 0) {
                return fail(FAULT_BRACKET);
            }
            put(program.labels, label, program.count);
            advance();
            return true;
        }

        /** The first word behind the label; null with a fault. */
        private Op readOp() {
            opens = text.byteAt(to - 1) == '(';
            Op op = opSpelled(from, opens ? to - 1 : to);
            if (op == null || opens && op.form != FORM_CALCULATE) {
                fail(FAULT_WORD);
                return null;
            }
            if (isFull(op)) {
                fail(FAULT_MANY);
                return null;
            }
            if (!isAllowedByBrackets(op)) {
                fail(FAULT_BRACKET);
                return null;
            }
            if (opens) {
                open++;
            } else if (op.form == FORM_CLOSE) {
                open--;
            }
            advance();
            return op;
        }

        private Op opSpelled(int begin, int end) {
            for (Op op : OPS) {
                if (text.spells(op.spelling, begin, end)) {
                    return op;
                }
            }
            return null;
        }

        private boolean isFull(Op op) {
            if (op.form == FORM_GO) {
                return program.chart.goCount >= MOST_GOS;
            }
            return op.form != FORM_STEP && program.count >= MOST_INSTRUCTIONS;
        }

        private boolean isAllowedByBrackets(Op op) {
            switch (op.form) {
                case FORM_CALCULATE:
                    return !opens || open < MOST_OPEN;
                case FORM_CLOSE:
                    return open > 0;
                case FORM_JUMP:
                case FORM_RETURN:
                case FORM_STEP:
                case FORM_GO:
                    return open == 0;
                default:
                    return true;
            }
        }

        private boolean readOperands(Op op) {
            int place = from;
            int limit = 0;
            gotKind = KIND_NOTHING;
            gotNumber = 0;
            int only = opens ? 0 : operandsOf(op);
            if (only != 0 && !readCell(only)) {
                return false;
            }
            int kind = gotKind;
            int number = gotNumber;
            if (op.form == FORM_TIMER || op.form == FORM_COUNTER) {
                if (!readFigures(MOST_TEXT, op.form == FORM_TIMER ? MOST_TICKS : MOST_COUNT)) {
                    return false;
                }
                limit = gotNumber;
            } else if (op.form == FORM_JUMP) {
                noteNamed(labelNamed, number, place);
            }
            program.add(op, kind, number, limit);
            return true;
        }

        /** The kinds of operand that a word takes, a bit for each; 0 when it stands alone. */
        private int operandsOf(Op op) {
            switch (op.form) {
                case FORM_LOAD:
                case FORM_CALCULATE:
                    return ONLY_OPERANDS;
                case FORM_STORE:
                    return ONLY_STORES;
                case FORM_SET:
                    return ONLY_BITS;
                case FORM_JUMP:
                    return 1 << KIND_LABEL;
                case FORM_TIMER:
                    return 1 << KIND_T;
                case FORM_COUNTER:
                case FORM_CLEAR:
                    return 1 << KIND_C;
                case FORM_EDGE:
                    return 1 << KIND_EDGE;
                default:
                    return 0;
            }
        }

        /** The kind that the word's letters tell; NONE when it isn't the word of a kind. */
        private int kindOfWord() {
            if (token != TOKEN_WORD || figures == to) {
                return NONE;
            }
            if (figures == from) {
                return KIND_NUMBER;
            }
            if (figures - from == 1) {
                int letter = text.byteAt(from);
                return letter == '-' ? KIND_NUMBER : LETTERS.indexOf((char) letter);
            }
            if (text.spells("TE", from, figures)) {
                return KIND_TE;
            }
            return text.spells("CV", from, figures) ? KIND_CV : NONE;
        }

        private boolean readCell(int only) {
            int kind = kindOfWord();
            if (kind == NONE || !isSet(only, kind)) {
                return fail(FAULT_WORD);
            }
            long number = text.numberIn(figures, to);
            if (kind == KIND_NUMBER) {
                number = figures > from ? -number : number;
                if (number < LEAST_NUMBER || number > MOST_NUMBER) {
                    return fail(FAULT_RANGE);
                }
            } else if (to - figures > MOST_FIGURES || number >= at(RANGES, kind)) {
                return fail(FAULT_RANGE);
            }
            gotKind = kind;
            gotNumber = (int) number;
            advance();
            return true;
        }

        private boolean readFigures(int mostFigures, int most) {
            if (!isFigures()) {
                return fail(FAULT_WORD);
            }
            long number = text.numberIn(from, to);
            if (to - from > mostFigures || number > most) {
                return fail(FAULT_RANGE);
            }
            gotNumber = (int) number;
            advance();
            return true;
        }

        private boolean readStep() {
            int place = from;
            if (!readFigures(MOST_FIGURES, STEPS - 1)) {
                return false;
            }
            if (isSet(program.chart.steps, gotNumber)) {
                return failAt(FAULT_TWICE, place);
            }
            int step = gotNumber;
            program.chart.steps |= 1 << step;
            for (int k = 0; k < MOST_ACTIONS; k++) {
                int action = actionOfWord();
                if (action == NO_ACTION) {
                    return true;
                }
                advance();
                if (!readCell(ONLY_BITS)) {
                    return false;
                }
                program.chart.addAction(step, k, action, gotKind, gotNumber);
            }
            return true;
        }

        private int actionOfWord() {
            if (isWord("N")) {
                return ACTION_N;
            }
            if (isWord("S")) {
                return ACTION_S;
            }
            return isWord("R") ? ACTION_R : NO_ACTION;
        }

        private boolean readGo() {
            int before = readSteps();
            if (before == 0) {
                return false;
            }
            if (!isWord("TO")) {
                return fail(FAULT_WORD);
            }
            advance();
            int behind = readSteps();
            if (behind == 0) {
                return false;
            }
            int condition = isWord("IF") ? IF : isWord("IFN") ? IFN : ALWAYS;
            if (condition != ALWAYS) {
                advance();
                if (!readCell(ONLY_OPERANDS)) {
                    return false;
                }
            }
            program.chart.addGo(before, behind, condition, gotKind, gotNumber);
            return true;
        }

        /** One to three steps, a bit for each; 0 with a fault. */
        private int readSteps() {
            int mask = 0;
            for (int k = 0; k < MOST_NAMED_STEPS && (k == 0 || isFigures()); k++) {
                int place = from;
                if (!readFigures(MOST_FIGURES, STEPS - 1)) {
                    return 0;
                }
                noteNamed(stepNamed, gotNumber, place);
                mask |= 1 << gotNumber;
            }
            return mask;
        }

        private void noteNamed(int[] named, int number, int place) {
            if (at(named, number) == NONE) {
                put(named, number, place);
            }
        }

        private boolean findNoneMissing() {
            int first = MOST_TEXT;
            for (int label = 0; label < LABELS; label++) {
                if (at(labelNamed, label) != NONE && at(program.labels, label) == NONE) {
                    first = Math.min(first, at(labelNamed, label));
                }
            }
            for (int step = 0; step < STEPS; step++) {
                if (at(stepNamed, step) != NONE && !isSet(program.chart.steps, step)) {
                    first = Math.min(first, at(stepNamed, step));
                }
            }
            return first == MOST_TEXT || failAt(FAULT_MISSING, first);
        }
    }

    /** The cells: those that are bits in a mask for each kind. */
    private static final class Cells {
        final int[] masks = new int[BIT_KINDS];
        private final int[] words = new int[WORDS];
        private final int[] elapsed = new int[BLOCKS];
        private final int[] counts = new int[BLOCKS];

        Cells() {
            put(masks, KIND_X, 1);
        }

        void clear() {
            fill(masks, 0);
            fill(words, 0);
            fill(elapsed, 0);
            fill(counts, 0);
            put(masks, KIND_X, 1);
        }

        int valueOf(int kind, int number) {
            switch (kind) {
                case KIND_NUMBER:
                    return number;
                case KIND_W:
                    return at(words, number);
                case KIND_TE:
                    return at(elapsed, number);
                case KIND_CV:
                    return at(counts, number);
                default:
                    return at(masks, kind) >>> number & 1;
            }
        }

        void setBit(int kind, int number, boolean is) {
            put(masks, kind, withBit(at(masks, kind), number, is));
        }

        void store(int kind, int number, int value) {
            if (kind == KIND_W) {
                put(words, number, value);
            } else {
                setBit(kind, number, value != 0);
            }
        }

        void setTimer(int i, boolean is, int gone) {
            put(masks, KIND_T, withBit(at(masks, KIND_T), i, is));
            put(elapsed, i, gone);
        }

        void setCount(int i, int count) {
            put(counts, i, count);
        }
    }

    /** What each kind of timer, counter and edge knows of its past: a bit of a mask for each of them. */
    private static final class Past {
        private int onRuns = 0;
        private final long[] onBegan = new long[BLOCKS];
        private int offHadIt = 0;
        private int offRuns = 0;
        private final long[] offBegan = new long[BLOCKS];
        private int pulseRuns = 0;
        private final long[] pulseBegan = new long[BLOCKS];
        private int upHadIt = 0;
        private int downHadIt = 0;
        private int riseHadIt = 0;
        private int fallHadIt = 0;

        /** Times begun need no clearing: they count only while their timer runs. */
        void clear() {
            onRuns = 0;
            offHadIt = 0;
            offRuns = 0;
            pulseRuns = 0;
            upHadIt = 0;
            downHadIt = 0;
            riseHadIt = 0;
            fallHadIt = 0;
        }

        private static void begin(long[] began, int i, long now) {
            if (i >= 0 && i < began.length) {
                began[i] = now;
            }
        }

        private static int goneSince(long[] began, int i, long now, int limit) {
            long since = i >= 0 && i < began.length ? began[i] : now;
            return (int) Math.min(now - since, limit);
        }

        void delayOn(Cells cells, int i, boolean is, int limit, long now) {
            if (is && !isSet(onRuns, i)) {
                begin(onBegan, i, now);
            }
            onRuns = withBit(onRuns, i, is);
            int gone = is ? goneSince(onBegan, i, now, limit) : 0;
            cells.setTimer(i, is && gone == limit, gone);
        }

        void delayOff(Cells cells, int i, boolean is, int limit, long now) {
            if (is) {
                offHadIt = withBit(offHadIt, i, true);
                offRuns = withBit(offRuns, i, false);
                cells.setTimer(i, true, 0);
                return;
            }
            if (!isSet(offHadIt, i)) {
                cells.setTimer(i, false, 0);
                return;
            }
            if (!isSet(offRuns, i)) {
                offRuns = withBit(offRuns, i, true);
                begin(offBegan, i, now);
            }
            int gone = goneSince(offBegan, i, now, limit);
            cells.setTimer(i, gone < limit, gone);
        }

        void pulse(Cells cells, int i, boolean is, int limit, long now) {
            if (!is && !isSet(pulseRuns, i)) {
                cells.setTimer(i, false, 0);
                return;
            }
            // A pulse ends only without x: with none going on, the last TP had no x.
            if (!isSet(pulseRuns, i)) {
                begin(pulseBegan, i, now);
            }
            int gone = goneSince(pulseBegan, i, now, limit);
            boolean over = gone == limit && !is;
            pulseRuns = withBit(pulseRuns, i, !over);
            cells.setTimer(i, gone < limit, over ? 0 : gone);
        }

        void countUp(Cells cells, int i, boolean is, int limit) {
            int count = cells.valueOf(KIND_CV, i);
            if (is && !isSet(upHadIt, i) && count < MOST_COUNT) {
                count++;
            }
            upHadIt = withBit(upHadIt, i, is);
            cells.setCount(i, count);
            cells.setBit(KIND_C, i, count >= limit);
        }

        void countDown(Cells cells, int i, boolean is) {
            int count = cells.valueOf(KIND_CV, i);
            if (is && !isSet(downHadIt, i) && count > LEAST_COUNT) {
                count--;
            }
            downHadIt = withBit(downHadIt, i, is);
            cells.setCount(i, count);
            cells.setBit(KIND_C, i, count <= 0);
        }

        boolean rises(int i, boolean is) {
            boolean had = isSet(riseHadIt, i);
            riseHadIt = withBit(riseHadIt, i, is);
            return is && !had;
        }

        boolean falls(int i, boolean is) {
            boolean had = isSet(fallHadIt, i);
            fallHadIt = withBit(fallHadIt, i, is);
            return !is && had;
        }
    }

    /** Does the scans, and holds all that a reset or a load brings back. */
    private static final class Machine {
        final Cells cells = new Cells();
        long now = 0;
        int outputs = 0;
        int stop = 0;
        int performed = 0;
        int gosFired = 0;
        private final Past past = new Past();
        private int result = 0;
        private int next = 0;
        private int open = 0;
        private final int[] asideResults = new int[MOST_OPEN];
        private final Op[] asideOps = new Op[MOST_OPEN];

        /** Behind it no scan has been done, so that the last one is forgotten too. */
        void startAgain() {
            cells.clear();
            past.clear();
            now = 0;
            outputs = 0;
            stop = 0;
            performed = 0;
            gosFired = 0;
        }

        void goRound(Program program, int inputs, int ticks) {
            now += ticks;
            put(cells.masks, KIND_I, inputs);
            gosFired = 0;
            performList(program);
            if (stop != 0) {
                return;
            }
            goOn(program.chart);
            act(program.chart);
            outputs = at(cells.masks, KIND_Q);
        }

        private void performList(Program program) {
            result = 0;
            next = 0;
            open = 0;
            performed = 0;
            for (int k = 0; k < MOST_DONE && next < program.count; k++) {
                int here = next;
                next = here + 1;
                Op op = program.opAt(here);
                if (op == null) {
                    return;
                }
                if (op.isBlock()) {
                    performBlock(op, at(program.numbers, here), at(program.limits, here));
                } else {
                    perform(op, program, here);
                }
                if (stop != 0) {
                    return;
                }
                performed++;
            }
            if (next < program.count) {
                stop = STOP_LONG;
            }
        }

        private void perform(Op op, Program program, int here) {
            int kind = at(program.kinds, here);
            int number = at(program.numbers, here);
            switch (op.form) {
                case FORM_LOAD:
                    result = op.counts(cells.valueOf(kind, number));
                    break;
                case FORM_CALCULATE:
                    if (kind == KIND_NOTHING) {
                        putAside(op);
                    } else {
                        result = calculate(op, result, cells.valueOf(kind, number));
                    }
                    break;
                case FORM_STORE:
                    cells.store(kind, number, op.counts(result));
                    break;
                case FORM_SET:
                    if (result != 0) {
                        cells.setBit(kind, number, op == Op.S);
                    }
                    break;
                case FORM_CLOSE:
                    takeBack();
                    break;
                case FORM_NOT:
                    result = result == 0 ? 1 : 0;
                    break;
                case FORM_JUMP:
                    if (op.isTaken(result)) {
                        next = at(program.labels, number);
                    }
                    break;
                case FORM_RETURN:
                    if (op.isTaken(result)) {
                        next = program.count;
                    }
                    break;
                default:
                    break;
            }
        }

        private void performBlock(Op op, int i, int limit) {
            boolean is = result != 0;
            switch (op) {
                case TON:
                    past.delayOn(cells, i, is, limit, now);
                    break;
                case TOF:
                    past.delayOff(cells, i, is, limit, now);
                    break;
                case TP:
                    past.pulse(cells, i, is, limit, now);
                    break;
                case CTU:
                    past.countUp(cells, i, is, limit);
                    break;
                case CTD:
                    past.countDown(cells, i, is);
                    break;
                case CLR:
                    if (is) {
                        cells.setCount(i, 0);
                    }
                    break;
                case RISE:
                    result = past.rises(i, is) ? 1 : 0;
                    break;
                case FALL:
                    result = past.falls(i, is) ? 1 : 0;
                    break;
                default:
                    break;
            }
            if (op.form == FORM_TIMER) {
                result = cells.valueOf(KIND_T, i);
            } else if (op.form == FORM_COUNTER) {
                result = cells.valueOf(KIND_C, i);
            }
        }

        private void putAside(Op op) {
            if (open < 0 || open >= asideOps.length) {
                return;
            }
            asideOps[open] = op;
            put(asideResults, open, result);
            open++;
            result = 0;
        }

        private void takeBack() {
            if (open < 1 || open > asideOps.length) {
                return;
            }
            open--;
            Op op = asideOps[open];
            if (op != null) {
                result = calculate(op, at(asideResults, open), result);
            }
        }

        private int calculate(Op op, int first, int operand) {
            int value = op.counts(operand);
            switch (op) {
                case AND:
                case ANDN:
                    return first & value;
                case OR:
                case ORN:
                    return first | value;
                case XOR:
                case XORN:
                    return first ^ value;
                case ADD:
                    return first + value;
                case SUB:
                    return first - value;
                case MUL:
                    return first * value;
                case DIV:
                case MOD:
                    if (value == 0) {
                        stop = STOP_ZERO;
                        return first;
                    }
                    return op == Op.DIV ? first / value : first % value;
                default:
                    return compare(op, first, value) ? 1 : 0;
            }
        }

        private boolean compare(Op op, int first, int value) {
            switch (op) {
                case GT:
                    return first > value;
                case GE:
                    return first >= value;
                case EQ:
                    return first == value;
                case NE:
                    return first != value;
                case LE:
                    return first <= value;
                default:
                    return first < value;
            }
        }

        /** Steps left lose their bit at once, so that no later GO can leave them again; entered ones get it last. */
        private void goOn(Chart chart) {
            int entered = 0;
            for (int g = 0; g < chart.goCount; g++) {
                int before = at(chart.goBefore, g);
                int active = at(cells.masks, KIND_X);
                if ((active & before) == before && isOpen(chart, g)) {
                    put(cells.masks, KIND_X, active & ~before);
                    entered |= at(chart.goBehind, g);
                    gosFired++;
                }
            }
            put(cells.masks, KIND_X, at(cells.masks, KIND_X) | entered);
        }

        private boolean isOpen(Chart chart, int g) {
            int condition = at(chart.goConditions, g);
            if (condition == ALWAYS) {
                return true;
            }
            int value = cells.valueOf(at(chart.goKinds, g), at(chart.goNumbers, g));
            return (condition == IF) == (value != 0);
        }

        private void act(Chart chart) {
            int active = at(cells.masks, KIND_X);
            int all = (1 << STEPS) - 1;
            actAs(chart, ACTION_N, all, false);
            actAs(chart, ACTION_N, active, true);
            for (int i = 0; i < STEPS * MOST_ACTIONS; i++) {
                int action = at(chart.actions, i);
                if ((action == ACTION_S || action == ACTION_R) && isSet(active, i / MOST_ACTIONS)) {
                    cells.setBit(at(chart.actionKinds, i), at(chart.actionNumbers, i), action == ACTION_S);
                }
            }
        }

        private void actAs(Chart chart, int action, int steps, boolean is) {
            for (int i = 0; i < STEPS * MOST_ACTIONS; i++) {
                if (at(chart.actions, i) == action && isSet(steps, i / MOST_ACTIONS)) {
                    cells.setBit(at(chart.actionKinds, i), at(chart.actionNumbers, i), is);
                }
            }
        }
    }
}
