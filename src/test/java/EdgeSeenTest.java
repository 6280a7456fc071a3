/** Each sentence of the Terms, part 4, and of promises 33 to 38 that names a limit. */
public final class EdgeSeenTest {
    private static final Check check = new Check();
    private static final int MIN = Integer.MIN_VALUE;
    private static final int MAX = Integer.MAX_VALUE;
    /** Behind one try the drawn cell is 1 high, and the one to the east of it 3. */
    private static final String ONE_TRY = "size 10 by 8;sand 2;slope 9;shadow 9;hop 1;stick 16 16;";
    private static final String FIELD = "size 4 by 3;sand 2;heap 1 1 3;grass 3 2;wind east 2 south 1;stick 9 5;draw 8;";

    public static void main(String[] args) {
        twentySeen();
        seenLimits();
        triesOfSeen();
        soHighOrHigher();
        orWasNot();
        seedsFromZeroTo49();
        settledAndAsTold();
        untellLimits();
        toldAtKOrBefore();
        untoldAtKOrBefore();
        timeGoesOn();
        timeAbove100000();
        fitsOfAnyTime();
        fitLimits();
        askLimits();
        askOfLikeOnes();
        askTheFewestAtTheMost();
        askAsKnown();
        fieldForgets();
        check.finish("EdgeSeenTest");
    }

    /** "SEEN, 20 at most"; "its number; NONE, doing nothing, .. or there are 20". */
    private static void twentySeen() {
        SandMarch x = Check.fieldOf(FIELD);
        for (int i = 0; i < 20; i++) {
            check.due("seen number", x.seen(i, i % 12, 0, true), i);
            check.due("how many", x.about(14), i + 1);
        }
        for (int i = 0; i < 3; i++) {
            check.due("a 21st", x.seen(0, 0, 50, true), -1);
            check.due("still 20", x.about(14), 20);
        }
        check.due("all fit", x.fits(0), 50);
        check.due("what is untold makes no room", x.untell(19), true);
        check.due("a 21st", x.seen(0, 0, 0, true), -1);
        check.due("untell(0)", x.untell(0), true);
        check.due("untell(20)", x.untell(20), false);
    }

    /** "(n 0 .. 200, h 0 or more) .. NONE, doing nothing, if there is no such CELL, number". */
    private static void seenLimits() {
        SandMarch x = Check.fieldOf(FIELD);
        for (int n : new int[] {-1, 201, 202, MIN, MAX}) {
            check.due("seen(" + n + ", 0, 0, true)", x.seen(n, 0, 0, true), -1);
        }
        for (int cell : new int[] {-1, 12, 13, MIN, MAX}) {
            check.due("seen(0, " + cell + ", 0, true)", x.seen(0, cell, 0, true), -1);
        }
        for (int h : new int[] {-1, -2, MIN}) {
            check.due("seen(0, 0, " + h + ", true)", x.seen(0, 0, h, true), -1);
            check.due("seen(0, 0, " + h + ", false)", x.seen(0, 0, h, false), -1);
        }
        check.due("none of them counts", x.about(14), 0);
        int[][] right = {{0, 0, 0}, {200, 0, 0}, {199, 11, 1}, {0, 11, 0}, {1, 5, 0}, {0, 0, MAX}};
        for (int i = 0; i < right.length; i++) {
            check.due("seen " + i, x.seen(right[i][0], right[i][1], right[i][2], right[i][2] < 9), i);
        }
        check.due("as many as were told", x.about(14), right.length);
        check.due("no try", x.about(4), 0);
        check.due("no act", x.about(12), 0);
    }

    /** The height of a cell behind n tries by a seed, by an object whose text tells that seed. */
    private static int height(String text, int seed, int n, int cell) {
        SandMarch y = Check.fieldOf(text.replaceAll("draw \\d+;", "") + "draw " + seed + ";");
        if (n > 0) {
            y.blow(n);
        }
        return y.cell(cell, 0);
    }

    private static void dueFits(SandMarch x, int k, boolean[] want) {
        int count = 0;
        for (int seed = 0; seed < 50; seed++) {
            if (want[seed]) {
                check.due("fit(" + count + ", " + k + ")", x.fit(count, k), seed);
                count++;
            }
        }
        check.due("fits(" + k + ")", x.fits(k), count);
        check.due("fit(" + count + ", " + k + ")", x.fit(count, k), -1);
    }

    /** "behind n TRIES": none, one, and the most. */
    private static void triesOfSeen() {
        for (int n : new int[] {0, 1, 2, 50, 199, 200}) {
            for (int cell : new int[] {0, 6, 11}) {
                SandMarch x = Check.fieldOf(FIELD);
                x.seen(n, cell, 3, true);
                boolean[] want = new boolean[50];
                for (int seed = 0; seed < 50; seed++) {
                    want[seed] = height(FIELD, seed, n, cell) >= 3;
                }
                dueFits(x, 0, want);
            }
        }
    }

    /** "a CELL was h high or higher". */
    private static void soHighOrHigher() {
        // cell 5 is as told: 5 high, settled to 4
        int as = Check.fieldOf(FIELD).cell(5, 0);
        for (int h = 0; h <= as + 2; h++) {
            SandMarch is = Check.fieldOf(FIELD);
            is.seen(0, 5, h, true);
            check.due("at " + as + ", seen " + h, is.fits(0), h <= as ? 50 : 0);
            SandMarch not = Check.fieldOf(FIELD);
            not.seen(0, 5, h, false);
            check.due("at " + as + ", not seen " + h, not.fits(0), h <= as ? 0 : 50);
        }
        SandMarch any = Check.fieldOf(FIELD);
        any.seen(200, 3, 0, true);
        check.due("0 or higher it is always", any.fits(0), 50);
        any.seen(200, 3, MAX, false);
        check.due("so high it is never", any.fits(0), 50);
        any.seen(200, 3, 0, false);
        check.due("lower than 0 it is never", any.fits(0), 0);
    }

    /** "or was not": what one says, the other one denies. */
    private static void orWasNot() {
        for (int h = 1; h < 6; h++) {
            SandMarch is = Check.fieldOf(FIELD);
            SandMarch not = Check.fieldOf(FIELD);
            is.seen(9, 6, h, true);
            not.seen(9, 6, h, false);
            check.due("together all", is.fits(0) + not.fits(0), 50);
            is.seen(9, 6, h, false);
            check.due("both: none", is.fits(0), 0);
        }
    }

    /** "an unknown SEED from 0 to 49": the first, the last, and none beyond. */
    private static void seedsFromZeroTo49() {
        SandMarch all = Check.fieldOf(ONE_TRY);
        for (int i = 0; i < 50; i++) {
            check.due("fit(" + i + ", 0)", all.fit(i, 0), i);
        }
        check.due("fits(0)", all.fits(0), 50);
        check.due("fit(50, 0)", all.fit(50, 0), -1);
        for (int seed : new int[] {0, 1, 48, 49, 50, 51}) {
            int cell = Draws.next(seed) % 80;
            SandMarch x = Check.fieldOf(ONE_TRY);
            x.seen(1, cell, 2, false);
            boolean[] want = new boolean[50];
            for (int s = 0; s < 50; s++) {
                want[s] = Draws.next(s) % 80 == cell;
            }
            dueFits(x, 0, want);
        }
    }

    /** "going from the FIELD as told (SETTLED, rules and grass as told)", whatever was done or kept since. */
    private static void settledAndAsTold() {
        SandMarch plain = Check.fieldOf(FIELD);
        SandMarch other = Check.fieldOf(FIELD);
        other.blow(77);
        other.put(3, 20);
        other.turn(0, 6);
        other.turn(1, 1);
        other.turn(2, 0);
        other.turn(3, 16);
        other.sow(0, true);
        other.sow(11, false);
        other.image(0);
        other.back(0);
        for (SandMarch x : new SandMarch[] {plain, other}) {
            x.seen(13, 6, 3, true);
            x.seen(31, 2, 3, false);
        }
        check.due("fits", other.fits(0), plain.fits(0));
        check.due("some, not all", plain.fits(0) > 0 && plain.fits(0) < 50, true);
        for (int i = 0; i < 50; i++) {
            check.due("fit(" + i + ", 0)", other.fit(i, 0), plain.fit(i, 0));
        }
        check.due("ask", other.ask(60, 0, 0), plain.ask(60, 0, 0));
        check.due("ask", other.ask(60, 1, 0), plain.ask(60, 1, 0));
        // settled at first: 50 high as told, 11 or so then
        SandMarch steep = Check.fieldOf("size 5 by 4;sand 0;slope 1;heap 2 2 50;");
        int top = steep.cell(12, 0);
        check.due("it slid", top < 10, true);
        steep.seen(0, 12, top, true);
        check.due("settled it is so high", steep.fits(0), 50);
        steep.seen(0, 12, top + 1, true);
        check.due("and not higher", steep.fits(0), 0);
        // the seed as told does not count, nor the tries that were made
        SandMarch seed = Check.fieldOf(FIELD.replace("draw 8", "draw 9999"));
        seed.seen(13, 6, 3, true);
        seed.seen(31, 2, 3, false);
        check.due("whatever the draw", seed.fits(0), plain.fits(0));
    }

    /** "It is UNTOLD: true; false if it is so already, or there is none such." */
    private static void untellLimits() {
        SandMarch x = Check.fieldOf(FIELD);
        check.due("none is", x.untell(0), false);
        x.seen(0, 0, 50, true);
        x.seen(0, 0, 50, true);
        for (int seen : new int[] {-1, 2, 3, 20, MIN, MAX}) {
            check.due("untell(" + seen + ")", x.untell(seen), false);
        }
        check.due("neither is", x.fits(0), 0);
        check.due("untell(1)", x.untell(1), true);
        check.due("untell(1) again", x.untell(1), false);
        check.due("the other one is still", x.fits(0), 0);
        check.due("untell(0)", x.untell(0), true);
        check.due("untell(0) again", x.untell(0), false);
        check.due("all fit", x.fits(0), 50);
        x.later(7);
        check.due("later it is so still", x.untell(0), false);
        check.due("the next number", x.seen(0, 0, 0, true), 2);
    }

    /** "that counts that was TOLD at k or before". */
    private static void toldAtKOrBefore() {
        SandMarch x = Check.fieldOf(FIELD);
        x.later(10);
        x.seen(0, 0, 50, true);
        int[][] want = {{MIN, 50}, {-1, 50}, {0, 50}, {9, 50}, {10, 0}, {11, 0}, {100000, 0}, {MAX, 0}};
        for (int[] w : want) {
            check.due("fits(" + w[0] + ")", x.fits(w[0]), w[1]);
            check.due("fit(0, " + w[0] + ")", x.fit(0, w[0]), w[1] == 0 ? -1 : 0);
            check.due("fit(49, " + w[0] + ")", x.fit(49, w[0]), w[1] == 0 ? -1 : 49);
        }
        SandMarch first = Check.fieldOf(FIELD);
        first.seen(0, 0, 50, true);
        check.due("told at 0, known at -1", first.fits(-1), 50);
        check.due("told at 0, known at 0", first.fits(0), 0);
    }

    /** "not UNTOLD at k or before"; "UNTOLD at a later one or the same". */
    private static void untoldAtKOrBefore() {
        SandMarch x = Check.fieldOf(FIELD);
        x.later(10);
        x.seen(0, 0, 50, true);
        x.later(5);
        x.untell(0);
        int[][] want = {{9, 50}, {10, 0}, {14, 0}, {15, 50}, {16, 50}, {MAX, 50}, {MIN, 50}};
        for (int[] w : want) {
            check.due("fits(" + w[0] + ")", x.fits(w[0]), w[1]);
        }
        x.later(3);
        for (int[] w : want) {
            check.due("later fits(" + w[0] + ")", x.fits(w[0]), w[1]);
        }
        SandMarch same = Check.fieldOf(FIELD);
        same.later(4);
        same.seen(0, 0, 50, true);
        same.untell(0);
        for (int k = 0; k < 9; k++) {
            check.due("at the same time: fits(" + k + ")", same.fits(k), 50);
        }
        SandMarch zero = Check.fieldOf(FIELD);
        zero.seen(0, 0, 50, true);
        zero.untell(0);
        for (int k = -1; k < 3; k++) {
            check.due("at 0: fits(" + k + ")", zero.fits(k), 50);
        }
    }

    /** "So much later (0 .. 1000): the TIME; NONE, doing nothing, for another number". */
    private static void timeGoesOn() {
        SandMarch x = new SandMarch();
        check.due("0 at first", x.about(15), 0);
        int[][] want = {{0, 0}, {1, 1}, {999, 1000}, {1000, 2000}, {0, 2000}};
        for (int[] w : want) {
            check.due("later(" + w[0] + ")", x.later(w[0]), w[1]);
            check.due("about(15)", x.about(15), w[1]);
        }
        for (int by : new int[] {-1, 1001, 1002, 98000, MIN, MAX}) {
            check.due("later(" + by + ")", x.later(by), -1);
            check.due("about(15)", x.about(15), 2000);
        }
    }

    /** "or if it would be above 100,000". */
    private static void timeAbove100000() {
        SandMarch x = new SandMarch();
        for (int i = 1; i <= 99; i++) {
            check.due("later(1000)", x.later(1000), 1000 * i);
        }
        check.due("later(998)", x.later(998), 99998);
        check.due("later(3)", x.later(3), -1);
        check.due("later(2)", x.later(2), 100000);
        check.due("later(1)", x.later(1), -1);
        check.due("later(1000)", x.later(1000), -1);
        check.due("later(0)", x.later(0), 100000);
        check.due("about(15)", x.about(15), 100000);
        x.seen(0, 0, 50, true);
        check.due("known at 99,999", x.fits(99999), 50);
        check.due("known at 100,000", x.fits(100000), 0);
        SandMarch y = new SandMarch();
        for (int i = 1; i <= 100; i++) {
            check.due("later(1000)", y.later(1000), 1000 * i);
        }
        check.due("later(1)", y.later(1), -1);
    }

    private static void fitsOfAnyTime() {
        SandMarch x = new SandMarch();
        for (int k : new int[] {MIN, -1, 0, 1, 100000, 100001, MAX}) {
            check.due("fits(" + k + ")", x.fits(k), 50);
            check.due("fit(49, " + k + ")", x.fit(49, k), 49);
            check.due("ask(0, 1, " + k + ")", x.ask(0, 1, k), 50);
        }
    }

    /** "The i-th (0 ..) of FITS, from SEED 0 on; NONE if there is none such." */
    private static void fitLimits() {
        SandMarch x = Check.fieldOf(ONE_TRY);
        for (int i : new int[] {-1, 50, 51, MIN, MAX}) {
            check.due("fit(" + i + ", 0)", x.fit(i, 0), -1);
        }
        check.due("fit(0, 0)", x.fit(0, 0), 0);
        check.due("fit(49, 0)", x.fit(49, 0), 49);
        int cell = Draws.next(7) % 80;
        x.seen(1, cell, 2, true);
        int left = x.fits(0);
        check.due("some less", left < 50, true);
        check.due("the last one", x.fit(left - 1, 0), 49);
        check.due("no more", x.fit(left, 0), -1);
        check.due("not 7", x.fit(7, 0) > 7, true);
        check.due("fit(-1, 0)", x.fit(-1, 0), -1);
    }

    /** "ASK (n 0 .. 200) what 0 ..; NONE if none FITS, for another number, what." */
    private static void askLimits() {
        SandMarch x = Check.fieldOf(FIELD);
        for (int n : new int[] {-1, 201, 202, MIN, MAX}) {
            check.due("ask(" + n + ", 0, 0)", x.ask(n, 0, 0), -1);
            check.due("ask(" + n + ", 1, 0)", x.ask(n, 1, 0), -1);
        }
        for (int what : new int[] {-1, 2, 3, MIN, MAX}) {
            check.due("ask(1, " + what + ", 0)", x.ask(1, what, 0), -1);
        }
        for (int n : new int[] {0, 1, 199, 200}) {
            dueAsk(x, FIELD, n, 0);
        }
        x.seen(0, 0, 50, true);
        for (int n : new int[] {0, 200}) {
            check.due("none fits: ask(" + n + ", 0, 0)", x.ask(n, 0, 0), -1);
            check.due("none fits: ask(" + n + ", 1, 0)", x.ask(n, 1, 0), -1);
        }
        check.due("before it was told", x.ask(0, 1, -1), 50);
        // what was asked about a larger field does not count in a smaller one
        SandMarch once = Check.fieldOf("size 12 by 8;sand 3;stick 3 3;");
        once.ask(200, 0, 0);
        Check.tell(once, "size 3 by 1;sand 2;stick 16 16;");
        once.field();
        check.due("a cell of the field", once.ask(0, 0, 0), 0);
        check.due("all alike", once.ask(0, 1, 0), 50);
        dueAsk(once, "size 3 by 1;sand 2;stick 16 16;", 1, 0);
    }

    private static void dueAsk(SandMarch x, String text, int n, int k) {
        int cells = x.about(2);
        int[][] heights = new int[x.fits(k)][cells];
        for (int i = 0; i < heights.length; i++) {
            SandMarch y = Check.fieldOf(text.replaceAll("draw \\d+;", "") + "draw " + x.fit(i, k) + ";");
            if (n > 0) {
                y.blow(n);
            }
            for (int cell = 0; cell < cells; cell++) {
                heights[i][cell] = y.cell(cell, 0);
            }
        }
        int best = -1;
        int fewest = MAX;
        for (int cell = 0; cell < cells; cell++) {
            int most = 0;
            for (int[] one : heights) {
                int alike = 0;
                for (int[] other : heights) {
                    alike += one[cell] == other[cell] ? 1 : 0;
                }
                most = Math.max(most, alike);
            }
            if (most < fewest) {
                fewest = most;
                best = cell;
            }
        }
        check.due("ask(" + n + ", 0, " + k + ")", x.ask(n, 0, k), best);
        check.due("ask(" + n + ", 1, " + k + ")", x.ask(n, 1, k), fewest);
    }

    /** "of like ones the first". */
    private static void askOfLikeOnes() {
        SandMarch x = Check.fieldOf(FIELD);
        check.due("behind no try all are alike: the first cell", x.ask(0, 0, 0), 0);
        check.due("and all 50 are left", x.ask(0, 1, 0), 50);
        SandMarch bare = Check.fieldOf("sand 0;");
        check.due("so on bare ground", bare.ask(200, 0, 0), 0);
        check.due("so on bare ground", bare.ask(200, 1, 0), 50);
        // one seed alone: any cell leaves one
        SandMarch one = Check.fieldOf(ONE_TRY);
        int cell = loneCell();
        one.seen(1, cell, 2, false);
        check.due("one fits", one.fits(0), 1);
        check.due("the first cell", one.ask(5, 0, 0), 0);
        check.due("one is left", one.ask(5, 1, 0), 1);
        for (int seed : new int[] {0, 49}) {
            SandMarch lone = onlySeed(seed);
            check.due("one fits", lone.fits(0), 1);
            check.due("seed " + seed, lone.fit(0, 0), seed);
            check.due("the first cell", lone.ask(5, 0, 0), 0);
            check.due("one is left", lone.ask(5, 1, 0), 1);
        }
        // two seeds: the first cell by which they are parted
        SandMarch two = Check.fieldOf("size 3 by 1;sand 2;slope 9;shadow 9;hop 1;stick 16 16;");
        dueAsk(two, "size 3 by 1;sand 2;slope 9;shadow 9;hop 1;stick 16 16;", 1, 0);
    }

    /** So much is seen that one seed alone fits. */
    private static SandMarch onlySeed(int seed) {
        SandMarch x = Check.fieldOf(ONE_TRY);
        for (int n = 1; n <= 9 && x.fits(0) > 1; n++) {
            int cell = Draws.behind(seed, 2 * n - 1) % 80;
            int high = height(ONE_TRY, seed, n, cell);
            x.seen(n, cell, high, true);
            x.seen(n, cell, high + 1, false);
        }
        return x;
    }

    /** A cell that one of the seeds alone draws first. */
    private static int loneCell() {
        for (int cell = 0; cell < 80; cell++) {
            int count = 0;
            for (int seed = 0; seed < 50; seed++) {
                count += Draws.next(seed) % 80 == cell ? 1 : 0;
            }
            if (count == 1) {
                return cell;
            }
        }
        return -1;
    }

    /** "would leave the fewest of these at the most". */
    private static void askTheFewestAtTheMost() {
        for (String text : new String[] {FIELD, ONE_TRY, "size 3 by 2;sand 3;slope 4;wind east 1 north 1;stick 3 3;"}) {
            SandMarch x = Check.fieldOf(text);
            dueAsk(x, text, 1, 0);
            dueAsk(x, text, 17, 0);
            x.seen(3, 1, 2, true);
            dueAsk(x, text, 17, 0);
            x.seen(9, 5, 3, false);
            dueAsk(x, text, 2, 0);
        }
    }

    private static void askAsKnown() {
        SandMarch x = Check.fieldOf(FIELD);
        x.later(5);
        x.seen(9, 6, 3, true);
        x.later(5);
        x.seen(12, 2, 3, false);
        x.later(5);
        x.untell(0);
        for (int k : new int[] {4, 5, 9, 10, 14, 15, 20}) {
            dueAsk(x, FIELD, 25, k);
        }
    }

    /** "nothing is SEEN .. then; the TIME stays". */
    private static void fieldForgets() {
        SandMarch x = Check.fieldOf(FIELD);
        x.later(9);
        x.seen(0, 0, 50, true);
        x.seen(0, 0, 50, true);
        x.untell(0);
        Check.tell(x, "hop 7;");
        x.field();
        check.due("a fault: seen stays", x.about(14), 2);
        check.due("a fault: fits", x.fits(9), 0);
        Check.tell(x, "hop 6;");
        x.field();
        check.due("none is seen", x.about(14), 0);
        check.due("all fit", x.fits(9), 50);
        check.due("none to untell", x.untell(0), false);
        check.due("none to untell", x.untell(1), false);
        check.due("the time stays", x.about(15), 9);
        check.due("the first again", x.seen(0, 0, 50, true), 0);
        check.due("at the time of now", x.fits(8), 50);
        check.due("at the time of now", x.fits(9), 0);
        check.due("not untold", x.untell(0), true);
    }
}
