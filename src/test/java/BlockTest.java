/** Timers, counters and edges, and what block() tells of them (promises 9 and 14). */
public final class BlockTest {
    public static void main(String[] args) {
        delayOn();
        delayOnWithOtherNumbers();
        delayOff();
        delayOffWithOtherNumbers();
        pulse();
        pulseWithOtherNumbers();
        timersAtTheirNumbers();
        kindsHaveTheirOwnPast();
        kindsTogetherAsApart();
        skippedTimers();
        skippedKnowNothing();
        severalInOneScan();
        timersForgetWithReset();
        countUp();
        countDown();
        countersApart();
        countersAtTheirNumbers();
        countersBackFromTheirEnds();
        countersRememberAtTheirEnds();
        clear();
        edges();
        blocksForgetWithReset();
        Check.end("BlockTest");
    }

    /** Sets I0 and scans; then the timer's T and TE, and the result in W0. */
    private static void timer(ScanChart x, int i, boolean is, int ticks, int t, int te) {
        String where = "timer " + i + " at " + (x.time() + ticks) + ", x " + is;
        x.input(0, is);
        Check.same(where, x.scan(ticks), 0);
        Check.same(where + ": T", x.block(i, 0), t);
        Check.same(where + ": TE", x.block(i, 1), te);
        Check.same(where + ": result", x.word(0), t);
    }

    private static void delayOn() {
        ScanChart x = Check.loaded("LD I0; MUL 6; TON T7 10; ST W0;");
        timer(x, 7, false, 100, 0, 0);
        timer(x, 7, true, 5, 0, 0);
        timer(x, 7, true, 9, 0, 9);
        timer(x, 7, true, 0, 0, 9);
        timer(x, 7, true, 1, 1, 10);
        timer(x, 7, true, 1000000, 1, 10);
        timer(x, 7, false, 0, 0, 0);
        timer(x, 7, true, 0, 0, 0);
        timer(x, 7, true, 1000000, 1, 10);
        timer(x, 7, false, 3, 0, 0);
        timer(x, 7, true, 3, 0, 0);
        timer(x, 7, false, 9, 0, 0);
        timer(x, 7, true, 9, 0, 0);
        timer(x, 7, true, 9, 0, 9);
        ScanChart y = Check.loaded("LD I0; TON T0 0; ST W0;");
        timer(y, 0, false, 1, 0, 0);
        timer(y, 0, true, 1, 1, 0);
        timer(y, 0, true, 1, 1, 0);
        ScanChart z = Check.loaded("LD I0; TON T1 1000000; ST W0;");
        timer(z, 1, true, 1000000, 0, 0);
        timer(z, 1, true, 999999, 0, 999999);
        timer(z, 1, true, 1, 1, 1000000);
    }

    private static void delayOnWithOtherNumbers() {
        ScanChart x = Check.loaded("LD I0; TON T0 5; ST W1; LD I0; TON T0 20; ST W2; LD TE0; ST W3; "
                + "LD I1; JMPCN L0; LD 0; TON T0 7; L0:;");
        x.input(0, true);
        x.scan(1);
        x.scan(6);
        Check.same("W1", x.word(1), 1);
        Check.same("W2", x.word(2), 0);
        Check.same("W3", x.word(3), 6);
        x.scan(100);
        Check.same("W2", x.word(2), 1);
        Check.same("TE0", x.block(0, 1), 20);
        x.input(1, true);
        x.scan(1);
        Check.same("one without x ends it for all", x.block(0, 1), 0);
        x.input(1, false);
        x.scan(3);
        Check.same("begun anew", x.block(0, 1), 0);
        x.scan(3);
        Check.same("since then", x.block(0, 1), 3);
    }

    private static void delayOff() {
        ScanChart x = Check.loaded("LD I0; TOF T3 10; ST W0;");
        timer(x, 3, false, 100, 0, 0);
        timer(x, 3, true, 5, 1, 0);
        timer(x, 3, true, 50, 1, 0);
        timer(x, 3, false, 50, 1, 0);
        timer(x, 3, false, 9, 1, 9);
        timer(x, 3, false, 1, 0, 10);
        timer(x, 3, false, 1000, 0, 10);
        timer(x, 3, true, 1, 1, 0);
        timer(x, 3, false, 1, 1, 0);
        timer(x, 3, false, 5, 1, 5);
        timer(x, 3, true, 1, 1, 0);
        timer(x, 3, false, 7, 1, 0);
        timer(x, 3, false, 7, 1, 7);
        timer(x, 3, false, 7, 0, 10);
        ScanChart y = Check.loaded("LD I0; TOF T0 0; ST W0;");
        timer(y, 0, false, 1, 0, 0);
        timer(y, 0, true, 1, 1, 0);
        timer(y, 0, false, 0, 0, 0);
        timer(y, 0, false, 5, 0, 0);
    }

    private static void delayOffWithOtherNumbers() {
        ScanChart x = Check.loaded("LD I0; TOF T0 5; ST W1; LD I0; TOF T0 20; ST W2;");
        x.input(0, true);
        x.scan(1);
        x.input(0, false);
        x.scan(1);
        x.scan(6);
        Check.same("W1", x.word(1), 0);
        Check.same("W2", x.word(2), 1);
        Check.same("TE0", x.block(0, 1), 6);
        ScanChart y = Check.loaded("LD I0; TOF T0 5; ST W1; LD I1; TOF T0 5; ST W2;");
        y.input(0, true);
        y.scan(1);
        Check.same("W1", y.word(1), 1);
        Check.same("W2", y.word(2), 1);
        y.scan(9);
        Check.same("the first without x is behind the latest with x", y.block(0, 1), 0);
        y.input(0, false);
        y.scan(2);
        Check.same("since the last scan's second", y.block(0, 1), 2);
    }

    private static void pulse() {
        ScanChart x = Check.loaded("LD I0; TP T2 10; ST W0;");
        timer(x, 2, false, 100, 0, 0);
        timer(x, 2, true, 5, 1, 0);
        timer(x, 2, false, 4, 1, 4);
        timer(x, 2, true, 4, 1, 8);
        timer(x, 2, true, 1, 1, 9);
        timer(x, 2, true, 1, 0, 10);
        timer(x, 2, true, 100, 0, 10);
        timer(x, 2, false, 1, 0, 0);
        timer(x, 2, false, 1, 0, 0);
        timer(x, 2, true, 1, 1, 0);
        timer(x, 2, false, 9, 1, 9);
        timer(x, 2, false, 1, 0, 0);
        timer(x, 2, true, 0, 1, 0);
        timer(x, 2, true, 100, 0, 10);
        timer(x, 2, false, 0, 0, 0);
        timer(x, 2, true, 0, 1, 0);
        ScanChart y = Check.loaded("LD I0; TP T2 10; ST W0;");
        timer(y, 2, true, 3, 1, 0);
        ScanChart z = Check.loaded("LD I0; TP T0 0; ST W0; LD M0;");
        timer(z, 0, true, 3, 0, 0);
        timer(z, 0, true, 3, 0, 0);
        timer(z, 0, false, 3, 0, 0);
        timer(z, 0, true, 3, 0, 0);
    }

    private static void pulseWithOtherNumbers() {
        ScanChart x = Check.loaded("LD I0; TP T0 5; ST W1; LD TE0; ST W3; LD I0; TP T0 20; ST W2;");
        x.input(0, true);
        x.scan(1);
        x.scan(6);
        Check.same("W1", x.word(1), 0);
        Check.same("W3", x.word(3), 5);
        Check.same("W2", x.word(2), 1);
        Check.same("TE0", x.block(0, 1), 6);
        x.input(0, false);
        x.scan(0);
        Check.same("over by the first one's number", x.word(3), 0);
        Check.same("and for the second one too", x.word(2), 0);
        Check.same("TE0", x.block(0, 1), 0);
        ScanChart y = Check.loaded("LD I1; JMPC L0; LD I0; TP T0 5; L0: LD I2; TP T0 5;");
        y.input(2, true);
        y.scan(1);
        y.scan(5);
        Check.same("TE0", y.block(0, 1), 0);
        y.input(1, true);
        y.scan(5);
        Check.same("TE0", y.block(0, 1), 5);
        y.scan(5);
        Check.same("no pulse begins while x stays", y.block(0, 0), 0);
        // A pulse of 0 is over without x at once, and the next one begins anew.
        ScanChart z = Check.loaded("LD I1; JMPC L0; LD I0; TP T0 0; ST W0; JMP L1; L0: LD I0; TP T0 9; ST W0; L1:;");
        timer(z, 0, true, 1, 0, 0);
        timer(z, 0, false, 1, 0, 0);
        z.input(1, true);
        timer(z, 0, false, 4, 0, 0);
        timer(z, 0, true, 4, 1, 0);
        timer(z, 0, false, 4, 1, 4);
        timer(z, 0, true, 5, 0, 9);
        z.input(1, false);
        timer(z, 0, true, 5, 0, 0);
        timer(z, 0, false, 5, 0, 0);
        z.input(1, true);
        timer(z, 0, false, 5, 0, 0);
        // One of 0 that is still going on goes on with the greater number.
        z.reset();
        z.input(1, false);
        timer(z, 0, true, 1, 0, 0);
        timer(z, 0, true, 4, 0, 0);
        z.input(1, true);
        timer(z, 0, true, 2, 1, 6);
        timer(z, 0, false, 3, 0, 0);
    }

    /** One tick before p, at p, and above it, for the numbers at both ends of their range and between. */
    private static void timersAtTheirNumbers() {
        int[] numbers = {1, 2, 50, 999999, 1000000};
        for (int p : numbers) {
            ScanChart on = Check.loaded("LD I0; TON T7 " + p + "; ST W0;");
            timer(on, 7, true, 0, 0, 0);
            timer(on, 7, true, p - 1, 0, p - 1);
            timer(on, 7, true, 0, 0, p - 1);
            timer(on, 7, true, 1, 1, p);
            timer(on, 7, true, 0, 1, p);
            timer(on, 7, true, 1, 1, p);
            timer(on, 7, true, 1000000, 1, p);
            timer(on, 7, false, 0, 0, 0);
            timer(on, 7, true, 0, 0, 0);
            timer(on, 7, true, p, 1, p);
            ScanChart off = Check.loaded("LD I0; TOF T7 " + p + "; ST W0;");
            timer(off, 7, false, p, 0, 0);
            timer(off, 7, true, 0, 1, 0);
            timer(off, 7, true, p, 1, 0);
            timer(off, 7, false, p, 1, 0);
            timer(off, 7, false, p - 1, 1, p - 1);
            timer(off, 7, false, 1, 0, p);
            timer(off, 7, false, 1, 0, p);
            timer(off, 7, false, 1000000, 0, p);
            timer(off, 7, true, 1, 1, 0);
            timer(off, 7, false, 0, 1, 0);
            timer(off, 7, false, p, 0, p);
            ScanChart pulse = Check.loaded("LD I0; TP T7 " + p + "; ST W0;");
            timer(pulse, 7, true, 0, 1, 0);
            timer(pulse, 7, false, p - 1, 1, p - 1);
            timer(pulse, 7, true, 0, 1, p - 1);
            timer(pulse, 7, true, 1, 0, p);
            timer(pulse, 7, true, 1000000, 0, p);
            timer(pulse, 7, false, 0, 0, 0);
            timer(pulse, 7, false, 0, 0, 0);
            timer(pulse, 7, true, 0, 1, 0);
            timer(pulse, 7, false, p, 0, 0);
            timer(pulse, 7, true, 0, 1, 0);
        }
        ScanChart none = Check.loaded("LD I0; TOF T0 0; ST W0; LD I0; TON T1 0; ST W1; LD I0; TP T2 0; ST W2;");
        int[] in = {0, 1, 1, 0, 0, 1, 0};
        for (int k = 0; k < in.length; k++) {
            none.input(0, in[k] == 1);
            none.scan(k % 2 == 0 ? 0 : 1000000);
            Check.same("TOF of 0 at " + k, none.block(0, 0), in[k]);
            Check.same("TON of 0 at " + k, none.block(1, 0), in[k]);
            Check.same("TP of 0 at " + k, none.block(2, 0), 0);
            for (int i = 0; i < 3; i++) {
                Check.same("TE" + i + " of 0 at " + k, none.block(i, 1), 0);
                Check.same("W" + i + " of 0 at " + k, none.word(i), i == 2 ? 0 : in[k]);
            }
        }
    }

    private static void kindsHaveTheirOwnPast() {
        ScanChart x = Check.loaded("LD I0; TON T0 5; ST W1; LD I1; TOF T0 5; ST W2; LD I2; TP T0 5; ST W3;");
        x.input(0, true);
        x.scan(10);
        x.scan(5);
        Check.same("TON's T", x.word(1), 1);
        Check.same("TOF's T", x.word(2), 0);
        Check.same("T", x.block(0, 0), 0);
        x.input(1, true);
        x.scan(1);
        x.input(1, false);
        x.scan(1);
        Check.same("TON's T", x.word(1), 1);
        Check.same("TOF's T", x.word(2), 1);
        Check.same("TP's T", x.word(3), 0);
        x.input(2, true);
        x.scan(1);
        Check.same("TOF's T", x.word(2), 1);
        Check.same("TP's T", x.word(3), 1);
        x.scan(4);
        Check.same("TOF's T", x.word(2), 0);
        Check.same("TP's T", x.word(3), 1);
        Check.same("TE", x.block(0, 1), 4);
        Check.same("another timer", x.block(1, 1), 0);
        Check.same("a counter", x.block(0, 3), 0);
        Check.same("a counter's C", x.block(0, 2), 0);
    }

    /** Three kinds with one timer do as they do with a timer each, whatever their x's are and were. */
    private static void kindsTogetherAsApart() {
        String[] timers = {"LD I0; TON T%d 4; ST W0; LD TE%<d; ST W1;", "LD I1; TOF T%d 5; ST W2; LD TE%<d; ST W3;",
            "LD I2; TP T%d 3; ST W4; LD TE%<d; ST W5;"};
        String[] inputs = {"111110001110011111100010111101001111", "100100011000000100010110000001100100", "001001100011100110010000111100010010"};
        int[][] orders = {{0, 1, 2}, {0, 2, 1}, {1, 0, 2}, {1, 2, 0}, {2, 0, 1}, {2, 1, 0}};
        for (int[] order : orders) {
            StringBuilder together = new StringBuilder();
            StringBuilder apart = new StringBuilder();
            for (int kind : order) {
                together.append(String.format(timers[kind], 3));
                apart.append(String.format(timers[kind], kind));
            }
            ScanChart one = Check.loaded(together.toString());
            ScanChart each = Check.loaded(apart.toString());
            for (int k = 0; k < inputs[0].length(); k++) {
                for (int i = 0; i < 3; i++) {
                    boolean is = inputs[i].charAt(k) == '1';
                    one.input(i, is);
                    each.input(i, is);
                }
                one.scan(1 + k % 2);
                each.scan(1 + k % 2);
                for (int i = 0; i < 6; i++) {
                    Check.same(together + " scan " + k + ", W" + i, one.word(i), each.word(i));
                }
            }
        }
    }

    private static void skippedTimers() {
        ScanChart x = Check.loaded("LD I1; JMPC L0; LD I0; TON T0 10; TOF T1 10; L0: LD T0; ST Q0; LD TE0; ST W0;");
        x.input(0, true);
        x.scan(1);
        x.scan(4);
        Check.same("TE0", x.word(0), 4);
        x.input(1, true);
        x.scan(20);
        Check.same("TE0 of a timer that is not done stays", x.word(0), 4);
        Check.same("T0", x.block(0, 0), 0);
        x.input(1, false);
        x.scan(1);
        Check.same("the time went by all the same", x.word(0), 10);
        Check.same("Q0", x.output(0), true);
    }

    /** What the result was while a timer, counter or edge was not done, it never knew. */
    private static void skippedKnowNothing() {
        ScanChart x = Check.loaded("LD I1;JMPC L0;LD I0;TON T0 9;LD I0;TOF T1 9;LD I0;TP T2 9;LD I0;CTU C0 1;LD I0;CTD C1 0;"
                + "LD I0;RISE E0;ST W0;LD I0;FALL E0;ST W1;L0:;");
        x.input(0, true);
        x.scan(1);
        x.scan(9);
        skips(x, false);
        x.scan(1);
        int[] due = {1, 9, 1, 0, 0, 9, 1, -1, 0, 0};
        look("x fell and rose unseen", x, due);
        x.input(0, false);
        x.scan(1);
        look("x fell", x, new int[] {0, 0, 1, 0, 0, 0, 1, -1, 0, 1});
        x.scan(3);
        look("x fell, 3 later", x, new int[] {0, 0, 1, 3, 0, 0, 1, -1, 0, 0});
        skips(x, true);
        x.scan(1);
        look("x rose and fell unseen", x, new int[] {0, 0, 1, 8, 0, 0, 1, -1, 0, 0});
        x.input(1, true);
        x.input(0, true);
        x.scan(100);
        x.scan(100);
        x.input(1, false);
        x.scan(1);
        look("x rose at some time", x, new int[] {0, 0, 1, 0, 1, 0, 2, -2, 1, 0});
        x.input(1, true);
        x.input(0, false);
        x.scan(5);
        look("nothing was done", x, new int[] {0, 0, 1, 0, 1, 0, 2, -2, 1, 0});
        x.scan(5);
        x.input(1, false);
        x.scan(2);
        look("x fell at some time", x, new int[] {0, 0, 1, 0, 0, 0, 2, -2, 0, 1});
    }

    /** Two scans in which nothing is done but that x is otherwise in the first one. */
    private static void skips(ScanChart x, boolean is) {
        x.input(1, true);
        x.input(0, is);
        x.scan(2);
        x.input(0, !is);
        x.scan(2);
        x.input(1, false);
    }

    private static void look(String what, ScanChart x, int[] due) {
        int[] got = {x.block(0, 0), x.block(0, 1), x.block(1, 0), x.block(1, 1), x.block(2, 0), x.block(2, 1), x.block(0, 3),
            x.block(1, 3), x.word(0), x.word(1)};
        for (int k = 0; k < due.length; k++) {
            Check.same(what + ": " + k, got[k], due[k]);
        }
    }

    /** Of several instructions of a kind with one timer each is told apart only by its x and its number. */
    private static void severalInOneScan() {
        ScanChart pulses = Check.loaded("LD 1;TP T0 5;ST W0;LD TE0;ST W1;LD 0;TP T0 5;ST W2;LD TE0;ST W3;");
        int[] ticks = {3, 0, 4, 1, 0, 4, 9};
        int[][] pulse = {{1, 0, 1, 0}, {1, 0, 1, 0}, {1, 4, 1, 4}, {0, 5, 0, 0}, {1, 0, 1, 0}, {1, 4, 1, 4}, {0, 5, 0, 0}};
        several(pulses, ticks, pulse);
        ScanChart ons = Check.loaded("LD 1;TON T0 5;ST W0;LD TE0;ST W1;LD 1;TON T0 3;ST W2;LD TE0;ST W3;");
        several(ons, new int[] {3, 2, 1, 1, 1, 9},
                new int[][] {{0, 0, 0, 0}, {0, 2, 0, 2}, {0, 3, 1, 3}, {0, 4, 1, 3}, {1, 5, 1, 3}, {1, 5, 1, 3}});
        ScanChart never = Check.loaded("LD 1;TON T0 5;ST W0;LD TE0;ST W1;LD 0;TON T0 5;ST W2;LD TE0;ST W3;");
        several(never, new int[] {3, 9, 9}, new int[][] {{0, 0, 0, 0}, {0, 0, 0, 0}, {0, 0, 0, 0}});
        ScanChart offs = Check.loaded("LD 1;TOF T0 5;ST W0;LD TE0;ST W1;LD 0;TOF T0 5;ST W2;LD TE0;ST W3;");
        several(offs, new int[] {3, 9, 9}, new int[][] {{1, 0, 1, 0}, {1, 0, 1, 0}, {1, 0, 1, 0}});
        ScanChart noneOn = Check.loaded("LD 0;TOF T0 5;ST W0;LD TE0;ST W1;LD I0;TOF T0 0;ST W2;LD TE0;ST W3;");
        several(noneOn, new int[] {3, 9}, new int[][] {{0, 0, 0, 0}, {0, 0, 0, 0}});
        ScanChart zero = Check.loaded("LD 1;TON T0 0;ST W0;LD TE0;ST W1;LD 1;TON T0 9;ST W2;LD TE0;ST W3;");
        several(zero, new int[] {3, 4, 5}, new int[][] {{1, 0, 0, 0}, {1, 0, 0, 4}, {1, 0, 1, 9}});
        // A pulse that is at its end by one number goes on by a larger one, as long as none without x ends it.
        ScanChart longer = Check.loaded("LD 1;TP T0 0;ST W0;LD TE0;ST W1;LD 0;TP T0 9;ST W2;LD TE0;ST W3;");
        several(longer, new int[] {3, 4, 5, 0}, new int[][] {{0, 0, 1, 0}, {0, 0, 1, 4}, {0, 0, 0, 0}, {0, 0, 1, 0}});
    }

    private static void several(ScanChart x, int[] ticks, int[][] due) {
        for (int k = 0; k < ticks.length; k++) {
            x.scan(ticks[k]);
            for (int i = 0; i < 4; i++) {
                Check.same("W" + i + " at " + k, x.word(i), due[k][i]);
            }
        }
    }

    private static void timersForgetWithReset() {
        ScanChart x = Check.loaded("LD I0; TON T0 10; LD I0; TOF T1 10; LD I0; TP T2 10;");
        x.input(0, true);
        x.scan(1);
        x.scan(5);
        x.reset();
        for (int i = 0; i < 3; i++) {
            Check.same("T " + i, x.block(i, 0), 0);
            Check.same("TE " + i, x.block(i, 1), 0);
        }
        x.input(0, false);
        x.scan(1);
        Check.same("TOF without x since the reset", x.block(1, 0), 0);
        Check.same("TOF without x since the reset", x.block(1, 1), 0);
        ScanChart y = Check.loaded("LD I0; TOF T0 10; ST W0;");
        timer(y, 0, true, 1, 1, 0);
        timer(y, 0, false, 1, 1, 0);
        y.reset();
        timer(y, 0, false, 1, 0, 0);
        timer(y, 0, true, 1, 1, 0);
        timer(y, 0, false, 1, 1, 0);
        x.input(0, true);
        x.scan(1);
        x.scan(3);
        x.reset();
        x.scan(4);
        Check.same("TON begins anew", x.block(0, 1), 0);
        Check.same("TP begins anew", x.block(2, 1), 0);
        Check.same("TP's pulse", x.block(2, 0), 1);
    }

    private static void counter(ScanChart x, int i, boolean is, int c, int cv) {
        x.input(0, is);
        x.scan(1);
        String where = "counter " + i + " at " + x.time() + ", x " + is;
        Check.same(where + ": C", x.block(i, 2), c);
        Check.same(where + ": CV", x.block(i, 3), cv);
        Check.same(where + ": result", x.word(0), c);
    }

    private static void countUp() {
        ScanChart x = Check.loaded("LD I0; MUL -4; CTU C7 2; ST W0;");
        counter(x, 7, true, 0, 1);
        counter(x, 7, true, 0, 1);
        counter(x, 7, false, 0, 1);
        counter(x, 7, false, 0, 1);
        counter(x, 7, true, 1, 2);
        counter(x, 7, false, 1, 2);
        counter(x, 7, true, 1, 3);
        ScanChart y = Check.loaded("LD I0; CTU C0 0; ST W0;");
        counter(y, 0, false, 1, 0);
        // 45 counts a scan.
        ScanChart z = Check.loaded("L0: LD 1; CTU C0 32767; ST W0; LD 0; CTU C0 0; LD W1; ADD 1; ST W1; LT 45; "
                + "JMPC L0; LD 0; ST W1;");
        for (int k = 1; k <= 7; k++) {
            Check.same("run", z.run(100, 0), 100);
            Check.same("CV", z.block(0, 3), 4500 * k);
        }
        z.run(28, 0);
        Check.same("CV", z.block(0, 3), 32760);
        Check.same("W0", z.word(0), 0);
        z.run(1, 0);
        Check.same("CV up to 32767", z.block(0, 3), 32767);
        Check.same("W0", z.word(0), 1);
        z.run(3, 0);
        Check.same("CV up to 32767", z.block(0, 3), 32767);
    }

    private static void countDown() {
        ScanChart x = Check.loaded("LD I0; CTD C1 5; ST W0;");
        counter(x, 1, false, 1, 0);
        counter(x, 1, true, 1, -1);
        counter(x, 1, true, 1, -1);
        counter(x, 1, false, 1, -1);
        counter(x, 1, true, 1, -2);
        ScanChart z = Check.loaded("L0: LD 1; CTD C0 32767; ST W0; LD 0; CTD C0 0; LD W1; ADD 1; ST W1; LT 45; "
                + "JMPC L0; LD 0; ST W1;");
        for (int k = 1; k <= 7; k++) {
            z.run(100, 0);
        }
        z.run(28, 0);
        Check.same("CV", z.block(0, 3), -32760);
        z.run(1, 0);
        Check.same("CV down to -32768", z.block(0, 3), -32768);
        z.run(1, 0);
        Check.same("CV down to -32768", z.block(0, 3), -32768);
    }

    private static void countersApart() {
        // CTU and CTD of one counter share CV and C; each has its own last result.
        ScanChart x = Check.loaded("LD I0; CTU C2 2; ST M0; LD I1; CTD C2 9; ST M1; LD C2; ST M2; LD CV2; ST W0;");
        x.input(0, true);
        x.scan(1);
        x.scan(1);
        Check.same("CV grew once", x.word(0), 1);
        Check.same("M", x.bits(2), 0);
        x.input(0, false);
        x.scan(1);
        x.input(0, true);
        x.scan(1);
        Check.same("CV", x.word(0), 2);
        Check.same("C is 0 by CTD", x.bits(2), 1);
        x.input(1, true);
        x.scan(1);
        Check.same("CV", x.word(0), 1);
        x.scan(1);
        Check.same("CV is less once", x.word(0), 1);
        x.input(1, false);
        x.scan(1);
        x.input(1, true);
        x.scan(1);
        Check.same("CV", x.word(0), 0);
        Check.same("C is 1 by CTD", x.bits(2), 6);
        Check.same("another counter", x.block(3, 3), 0);
    }

    /** C is 1 from the number on with CTU, and up to 0 with CTD. */
    private static void countersAtTheirNumbers() {
        int[] numbers = {0, 1, 2, 3, 32766, 32767};
        for (int p : numbers) {
            ScanChart x = Check.loaded("LD I0; CTU C0 " + p + "; ST W0; LD CV0; ST W1;");
            for (int k = 0; k <= 4; k++) {
                counter(x, 0, false, k >= p ? 1 : 0, k);
                counter(x, 0, true, k + 1 >= p ? 1 : 0, k + 1);
            }
        }
        for (int p : new int[] {0, 32767}) {
            ScanChart x = Check.loaded("LD I1; CTU C0 0; LD I0; CTD C0 " + p + "; ST W0;");
            for (int k = 0; k < 2; k++) {
                x.input(1, true);
                x.scan(1);
                x.input(1, false);
                x.scan(1);
            }
            counter(x, 0, false, 0, 2);
            counter(x, 0, true, 0, 1);
            counter(x, 0, false, 0, 1);
            counter(x, 0, true, 1, 0);
            counter(x, 0, false, 1, 0);
            counter(x, 0, true, 1, -1);
        }
        ScanChart y = Check.loaded("LD I1; CTD C0 0; LD I0; CTU C0 0; ST W0;");
        y.input(1, true);
        y.scan(1);
        counter(y, 0, false, 0, -1);
        counter(y, 0, true, 1, 0);
    }

    /** A counter at an end stays there, but not for good: each way back is one. */
    private static void countersBackFromTheirEnds() {
        String up = "CTU C0 32767;";
        String down = "CTD C0 0;";
        for (int way = 0; way < 2; way++) {
            String to = way == 0 ? up : down;
            String back = way == 0 ? down : up;
            int end = way == 0 ? 32767 : -32768;
            int step = way == 0 ? -1 : 1;
            ScanChart x = Check.loaded("LD I1; JMPC L1; L0: LD 1;" + to + "LD 0;" + to + "LD W1; ADD 1; ST W1; LT 45; JMPC L0; "
                    + "LD 0; ST W1; RET; L1: LD I3;" + back + "LD I2;" + to + "ST W0;");
            for (int k = 1; k <= 7; k++) {
                x.run(100, 0);
            }
            x.run(28, 0);
            Check.same("seven before the end", x.block(0, 3), -step * 32760);
            x.input(1, true);
            for (int k = 1; k <= 12; k++) {
                x.input(2, true);
                x.scan(1);
                x.input(2, false);
                x.scan(1);
                int due = way == 0 ? Math.min(end, 32760 + k) : Math.max(end, -32760 - k);
                Check.same("CV at " + k, x.block(0, 3), due);
                Check.same("C at " + k, x.block(0, 2), way == 1 || k >= 7 ? 1 : 0);
                Check.same("the result at " + k, x.word(0), way == 1 || k >= 7 ? 1 : 0);
            }
            for (int k = 1; k <= 3; k++) {
                x.input(3, true);
                x.scan(1);
                Check.same("C on the way back", x.block(0, 2), way);
                x.input(3, false);
                x.scan(1);
                Check.same("CV on the way back", x.block(0, 3), end + step * k);
            }
        }
    }

    /** "Was 0 with the last CTU (or CTD)" is also asked of one that had nothing to count any more. */
    private static void countersRememberAtTheirEnds() {
        for (int way = 0; way < 2; way++) {
            String count = way == 0 ? "CTU C0 32767;" : "CTD C0 0;";
            int end = way == 0 ? 32767 : -32768;
            int step = way == 0 ? 1 : -1;
            for (int beyond = 0; beyond < 2; beyond++) {
                ScanChart x = Check.loaded("LD I1; JMPC L1; L0: LD 1;" + count + "LD 0;" + count + "LD W1; ADD 1; ST W1; LT 45;"
                        + " JMPC L0; LD 0; ST W1; RET; L1: LD I2;" + count + "LD I3; CLR C0;");
                for (int k = 1; k <= 7; k++) {
                    x.run(100, 0);
                }
                x.run(28, 0);
                x.input(1, true);
                for (int k = 1; k < 7 + beyond + (way == 0 ? 0 : 1); k++) {
                    x.input(2, true);
                    x.scan(1);
                    x.input(2, false);
                    x.scan(1);
                }
                Check.same("before", x.block(0, 3), beyond == 1 ? end : end - step);
                x.input(2, true);
                x.scan(1);
                Check.same("at the end", x.block(0, 3), end);
                x.input(3, true);
                x.scan(1);
                Check.same("cleared", x.block(0, 3), 0);
                x.input(3, false);
                x.scan(1);
                Check.same("x stayed, so nothing was counted", x.block(0, 3), 0);
                x.input(2, false);
                x.scan(1);
                x.input(2, true);
                x.scan(1);
                Check.same("x anew", x.block(0, 3), step);
            }
        }
    }

    private static void clear() {
        ScanChart x = Check.loaded("LD I0; CTU C0 1; LD I1; MUL 8; CLR C0; ST W0;");
        x.input(0, true);
        x.scan(1);
        Check.same("CV", x.block(0, 3), 1);
        x.input(1, true);
        x.scan(1);
        Check.same("CV is 0", x.block(0, 3), 0);
        Check.same("C stays", x.block(0, 2), 1);
        Check.same("the result stays", x.word(0), 8);
        x.input(1, false);
        x.scan(1);
        Check.same("C as the CTU finds it", x.block(0, 2), 0);
        Check.same("x stayed, so nothing was counted", x.block(0, 3), 0);
    }

    private static void edges() {
        ScanChart x = Check.loaded("LD I0; MUL 4; RISE E15; ST W0; LD I0; FALL E15; ST W1; LD I1; RISE E0; ST W2;");
        int[] in = {0, 1, 1, 0, 0, 1, 0, 1};
        int[] rise = {0, 1, 0, 0, 0, 1, 0, 1};
        int[] fall = {0, 0, 0, 1, 0, 0, 1, 0};
        for (int k = 0; k < in.length; k++) {
            x.input(0, in[k] == 1);
            x.scan(1);
            Check.same("RISE " + k, x.word(0), rise[k]);
            Check.same("FALL " + k, x.word(1), fall[k]);
            Check.same("another edge " + k, x.word(2), 0);
        }
        ScanChart y = Check.loaded("LD 5; RISE E1; ST W0; LD 5; RISE E1; ST W1; LD 0; FALL E1; ST W2; LD 0; RISE E1; "
                + "ST W3; LD -1; RISE E1; ST W4; LD -1; FALL E1; LD 0; FALL E1; ST W5;");
        y.scan(1);
        int[] due = {1, 0, 0, 0, 1, 1};
        for (int i = 0; i < due.length; i++) {
            Check.same("W" + i, y.word(i), due[i]);
        }
    }

    private static void blocksForgetWithReset() {
        ScanChart x = Check.loaded("LD I0; CTU C0 1; LD I0; CTD C1 1; LD I0; RISE E0; ST W0; LD I0; FALL E0; ST W1;");
        x.input(0, true);
        x.scan(1);
        x.scan(1);
        x.reset();
        Check.same("C0", x.block(0, 2), 0);
        Check.same("CV0", x.block(0, 3), 0);
        Check.same("CV1", x.block(1, 3), 0);
        x.scan(1);
        Check.same("CV0 counts anew", x.block(0, 3), 1);
        Check.same("CV1 counts anew", x.block(1, 3), -1);
        Check.same("RISE anew", x.word(0), 1);
        x.reset();
        x.input(0, false);
        x.scan(1);
        Check.same("FALL has no past", x.word(1), 0);
    }
}
