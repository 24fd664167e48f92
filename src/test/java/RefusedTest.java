import java.util.ArrayList;
import java.util.Arrays;
import java.util.List;
import java.util.function.Consumer;
import java.util.function.ToLongFunction;

/**
 * "Methods throw what their comments name, the one named first when several would do; a call that
 * throws, or answers NONE or false, changes nothing (but for load())": each such call in each kind of
 * state, and the last arguments that are allowed beside the first that aren't.
 *
 * That nothing changed is seen with twins: of two objects with the same calls one gets the call too,
 * and both must go on the same way, also where only what comes later shows it (the text, the inputs,
 * what timers, counters and edges remember).
 */
public final class RefusedTest {
    private static final int MIN = Integer.MIN_VALUE;
    private static final int MAX = Integer.MAX_VALUE;
    private static final Class<?> INDEX = IndexOutOfBoundsException.class;
    private static final Class<?> ARGUMENT = IllegalArgumentException.class;

    // All that remembers anything: three kinds of timers, counters, edges, a jump, a bracket, a chart.
    private static final String PROGRAM = "LD I7;TON T0 9;LD I0;TOF T1 9;LD I1;TP T2 9;LD I1;CTU C0 2;LD I2;CTD C1 0;"
            + "LD I2;RISE E0;ST M0;LD I2;FALL E0;ST M1;LD W0;ADD(;LD 1;);ST W0;ST W31;JMPC L3;ST Q9;L3: LD I4;ST Q0;"
            + "STEP 0 N Q1;STEP 1 S Q31;STEP 2 R Q31 N M31;GO 0 TO 1 2 IF I5;GO 1 TO 1;GO 2 TO 0;LD 1;DIV I6;";

    private enum State {
        FRESH, FED, LOADED, BUSY, FAULT, FULL, WIPED, RESET, STOPPED_BY_ZERO, STOPPED_BY_LENGTH;

        ScanChart made() {
            ScanChart x = new ScanChart();
            if (this == FRESH) {
                return x;
            }
            if (this == STOPPED_BY_LENGTH) {
                Check.feed(x, "LD 7;ST W5;ST Q5;L0: JMP L0;STEP 0 N Q1;");
                x.load();
                x.input(7, true);
                x.scan(5);
                x.input(8, true);
                return x;
            }
            Check.feed(x, PROGRAM);
            x.input(0, true);
            x.input(6, true);
            x.input(7, true);
            if (this == FED) {
                return x;
            }
            x.load();
            if (this == LOADED) {
                return x;
            }
            goBusy(x);
            if (this == STOPPED_BY_ZERO) {
                x.input(6, false);
                x.scan(2);
                x.input(1, false);
            } else if (this == FAULT) {
                Check.feed(x, "LD 1;STEP 5");
                x.load();
            } else if (this == FULL) {
                Check.feed(x, Check.times(700 - PROGRAM.length(), ";"));
            } else if (this == WIPED) {
                x.wipe();
            } else if (this == RESET) {
                x.reset();
            }
            return x;
        }

        private static void goBusy(ScanChart x) {
            x.input(3, true);
            x.scan(2);
            for (int i = 1; i <= 5; i++) {
                x.input(i, i != 3);
            }
            x.scan(3);
            x.input(0, false);
            x.scan(1);
            // Not taken over yet.
            x.input(3, true);
            x.input(31, true);
        }
    }

    public static void main(String[] args) {
        statesAreWhatTheySay();
        for (State state : State.values()) {
            feeds(state);
            indices(state);
            ticks(state);
            kinds(state);
            questions(state);
        }
        textIsFull();
        scansWhenStopped();
        loadsWithAFault();
        lastPromisedCall();
        Check.end("RefusedTest");
    }

    // ---- twins

    /** All answers of an object, now and as it goes on. */
    private static long[] future(ScanChart x) {
        List<Long> all = new ArrayList<>();
        add(all, Check.answers(x));
        add(all, x.scan(3), x.done(), x.fired());
        x.input(2, false);
        add(all, x.run(1, 4), x.bits(4), x.block(0, 1), x.block(1, 1), x.block(2, 1));
        add(all, Check.answers(x));
        add(all, x.feed(1, ';'), x.load(), x.fault(), x.place(), x.scan(1), x.bits(0));
        x.reset();
        add(all, x.scan(1), x.bits(0), x.bits(1), x.wipe());
        return all.stream().mapToLong(Long::longValue).toArray();
    }

    private static void add(List<Long> all, long... answers) {
        for (long answer : answers) {
            all.add(answer);
        }
    }

    private static void sameFuture(String what, State state, ScanChart x) {
        Check.same(what + " changes nothing in " + state, Arrays.equals(future(x), future(state.made())), true);
    }

    private static void refused(String what, State state, Class<?> due, Consumer<ScanChart> call) {
        ScanChart x = state.made();
        Class<?> got = null;
        try {
            call.accept(x);
        } catch (RuntimeException e) {
            got = e.getClass();
        }
        Check.same(what + " in " + state + " throws " + got + ", due is " + due, got == due, true);
        sameFuture(what, state, x);
    }

    private static void allowed(String what, State state, Consumer<ScanChart> call) {
        boolean threw = false;
        try {
            call.accept(state.made());
        } catch (RuntimeException e) {
            threw = true;
        }
        Check.same(what + " in " + state + " throws", threw, false);
    }

    private static void answers(String what, State state, long due, ToLongFunction<ScanChart> call) {
        ScanChart x = state.made();
        Check.same(what + " in " + state, call.applyAsLong(x), due);
        sameFuture(what, state, x);
    }

    /** The tests below would see nothing if a state weren't what its name says. */
    private static void statesAreWhatTheySay() {
        long[] busy = future(State.BUSY.made());
        for (State state : State.values()) {
            Check.same(state + " differs from BUSY", Arrays.equals(future(state.made()), busy), state == State.BUSY);
        }
        ScanChart x = State.BUSY.made();
        Check.same("done", x.done(), 27);
        Check.same("fired", x.fired(), 2);
        Check.same("X", x.bits(3), 3);
        Check.same("Q", x.bits(4), MIN | 3);
        Check.same("TE of a TON that goes on", x.block(0, 1), 4);
        Check.same("T of a TOF that goes on", x.block(1, 0), 1);
        Check.same("TE of a TP that goes on", x.block(2, 1), 1);
        Check.same("CV", x.block(0, 3), 1);
        Check.same("CV", x.block(1, 3), -1);
        Check.same("scan", State.STOPPED_BY_ZERO.made().scan(1), -1);
        Check.same("scan", State.STOPPED_BY_LENGTH.made().scan(1), -1);
        Check.same("wipe", State.FULL.made().wipe(), 700);
        Check.same("fault", State.FAULT.made().fault(), 1);
    }

    // ---- calls that throw, and the last that don't

    private static void feeds(State state) {
        for (int n : new int[] {0, -1, 9, 10, 64, MIN, MAX, MIN + 1, 256 + 1}) {
            refused("feed " + n, state, ARGUMENT, x -> x.feed(n, 0x3b3b3b3b3b3b3b3bL));
        }
        for (int n = 1; n <= 8; n++) {
            int allowed = n;
            allowed("feed " + n, state, x -> x.feed(allowed, -1L));
        }
    }

    private static void indices(State state) {
        for (int i : new int[] {-1, 32, 33, MIN, MAX, -32, 64}) {
            refused("input " + i, state, INDEX, x -> x.input(i, true));
            refused("input " + i, state, INDEX, x -> x.input(i, false));
            refused("output " + i, state, INDEX, x -> x.output(i));
            refused("word " + i, state, INDEX, x -> x.word(i));
        }
        for (int i : new int[] {0, 1, 30, 31}) {
            allowed("input " + i, state, x -> x.input(i, true));
            allowed("input " + i, state, x -> x.input(i, false));
            allowed("output " + i, state, x -> x.output(i));
            allowed("word " + i, state, x -> x.word(i));
        }
    }

    private static void ticks(State state) {
        int[] wrong = {-1, 1000001, MIN, MAX};
        for (int ticks : wrong) {
            refused("scan " + ticks, state, ARGUMENT, x -> x.scan(ticks));
            for (int n : new int[] {0, 1, 100, -1, 101}) {
                refused("run " + n + " " + ticks, state, ARGUMENT, x -> x.run(n, ticks));
            }
        }
        for (int n : new int[] {-1, 101, MIN, MAX}) {
            refused("run " + n, state, ARGUMENT, x -> x.run(n, 0));
            refused("run " + n, state, ARGUMENT, x -> x.run(n, 1000000));
        }
        for (int ticks : new int[] {0, 1, 999999, 1000000}) {
            allowed("scan " + ticks, state, x -> x.scan(ticks));
            for (int n : new int[] {0, 1, 99, 100}) {
                allowed("run " + n + " " + ticks, state, x -> x.run(n, ticks));
            }
        }
    }

    private static void kinds(State state) {
        for (int kind : new int[] {-1, 5, 6, MIN, MAX}) {
            refused("bits " + kind, state, ARGUMENT, x -> x.bits(kind));
        }
        int[] what = {0, 1, 2, 3};
        int[] wrongWhat = {-1, 4, 5, MIN, MAX};
        for (int i : new int[] {-1, 8, 9, MIN, MAX}) {
            for (int w : what) {
                refused("block " + i + " " + w, state, INDEX, x -> x.block(i, w));
            }
            for (int w : wrongWhat) {
                refused("block " + i + " " + w + ": the one named first", state, INDEX, x -> x.block(i, w));
            }
        }
        for (int i : new int[] {0, 7}) {
            for (int w : wrongWhat) {
                refused("block " + i + " " + w, state, ARGUMENT, x -> x.block(i, w));
            }
            for (int w : what) {
                allowed("block " + i + " " + w, state, x -> x.block(i, w));
            }
        }
        for (int kind = 0; kind <= 4; kind++) {
            int allowed = kind;
            allowed("bits " + kind, state, x -> x.bits(allowed));
        }
    }

    /** What only answers changes nothing either; nor does a run of no scans. */
    private static void questions(State state) {
        answers("all questions", state, 0, x -> {
            Check.answers(x);
            return 0;
        });
        answers("run of none", state, 0, x -> x.run(0, 0));
        answers("run of none", state, 0, x -> x.run(0, 1000000));
    }

    // ---- calls that answer NONE

    private static void textIsFull() {
        for (int n = 1; n <= 8; n++) {
            int more = n;
            answers("feed " + n + " behind 700 bytes", State.FULL, -1, x -> x.feed(more, 0x3b3b3b3b3b3b3b3bL));
            // So many bytes that the last n would be one too many, and then just enough.
            ScanChart x = new ScanChart();
            int had = 700 - n + 1;
            Check.same("feed", Check.feed(x, Check.times(had, " ")), had);
            Check.same("feed " + n + " to 701", x.feed(n, -1L), -1);
            Check.same("load", x.load(), 0);
            Check.same("wipe", x.wipe(), had);
            Check.same("feed", Check.feed(x, Check.times(700 - n, " ")), 700 - n);
            Check.same("feed " + n + " to 700", x.feed(n, 0x3b3b3b3b3b3b3b3bL), 700);
            Check.same("feed 1 to 701", x.feed(1, -1L), -1);
            Check.same("load", x.load(), 0);
            Check.same("wipe", x.wipe(), 700);
        }
        refused("feed 9 behind 700 bytes", State.FULL, ARGUMENT, x -> x.feed(9, 0));
        refused("feed 0 behind 700 bytes", State.FULL, ARGUMENT, x -> x.feed(0, 0));
    }

    private static void scansWhenStopped() {
        for (State state : new State[] {State.STOPPED_BY_ZERO, State.STOPPED_BY_LENGTH}) {
            for (int ticks : new int[] {0, 1, 1000000}) {
                answers("scan " + ticks, state, -1, x -> x.scan(ticks));
                for (int n : new int[] {1, 2, 100}) {
                    answers("run " + n + " " + ticks, state, 0, x -> x.run(n, ticks));
                }
            }
        }
    }

    /** A load with a fault tells of it, and leaves all else: the text, the program, and what it has done. */
    private static void loadsWithAFault() {
        String[] texts = {"x;", "LD I32;", Check.times(81, "NOT;"), "L3:;L3:;", "AND(;", "L3:;STEP 0 N Q7;STEP 9;JMP L9;",
            "STEP 1 N Q0;STEP 2;STEP 0;GO 0 TO 7;L3: LD 5;ST W0;JMP L0;"};
        int[] faults = {1, 2, 3, 4, 5, 6, 6};
        for (State state : State.values()) {
            for (int k = 0; k < texts.length; k++) {
                ScanChart x = state.made();
                ScanChart twin = state.made();
                x.wipe();
                twin.wipe();
                Check.feed(x, texts[k]);
                Check.feed(twin, texts[k]);
                String what = "load of '" + texts[k] + "' in " + state;
                Check.same(what, x.load(), -1);
                Check.same(what + ": fault", x.fault(), faults[k]);
                Check.same(what + ": place", x.place() >= 0, true);
                long[] was = future(x);
                long[] due = future(twin);
                // The first two answers are the fault and its place, and so they are in the middle.
                for (int i = 0; i < due.length; i++) {
                    boolean told = i % (Check.ANSWERS + 8) < 2 && i < 2 * Check.ANSWERS;
                    Check.same(what + ": answer " + i, told || was[i] == due[i], true);
                }
            }
        }
    }

    /** "An object is used for at most 512 calls": the 512th must still answer. */
    private static void lastPromisedCall() {
        String text = "L0: LD W0;ADD 1;ST W0;LD W1;ADD 1;ST W1;LT 60;JMPC L0;LD 0;ST W1;LD 1;TON T7 1000000;";
        int feeds = (text.length() + 7) / 8;
        int runs = 512 - feeds - 2;
        ScanChart x = new ScanChart();
        Check.feed(x, text);
        Check.same("load", x.load(), 12);
        for (int k = 1; k <= runs; k++) {
            Check.same("run " + k, x.run(100, 1000000), 100);
        }
        Check.same("time, the 512th call", x.time(), 100000000L * runs);
        ScanChart y = new ScanChart();
        for (int k = 1; k <= 511; k++) {
            Check.same("feed " + k, y.feed(1, ';'), k);
        }
        Check.same("wipe", y.wipe(), 511);
        ScanChart z = Check.loaded("LD W0;ADD 1;ST W0;");
        for (int k = 1; k <= 507; k++) {
            Check.same("scan " + k, z.scan(0), 0);
        }
        Check.same("W0", z.word(0), 507);
    }
}
