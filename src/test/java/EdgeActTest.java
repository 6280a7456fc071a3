/** Each sentence of the Terms, part 2, from FILL on, and of promises 9 to 15 that names a limit. */
public final class EdgeActTest {
    private static final Check check = new Check();
    private static final int MIN = Integer.MIN_VALUE;
    private static final int MAX = Integer.MAX_VALUE;
    private static final String[] WAYS = {"east", "south", "west", "north"};
    /** No slides, no shadow to speak of, and a slab sticks at once. */
    private static final String PLAIN = "slope 9;shadow 9;hop 1;stick 16 16;";

    public static void main(String[] args) {
        settledByMoreThanSlope();
        settledFirstCellFirst();
        settledToTheLowest();
        settledRoundTheEdge();
        fillByMoreThanSlope();
        fillFromTheFirstOfLikeOnes();
        fillGoesOn();
        spillByMoreThanSlope();
        spillToTheFirstOfLikeOnes();
        spillGoesOn();
        drawsOfTheSeed();
        drawnCell();
        idleOrNot();
        hopsOfEachLength();
        downInShadow();
        belowStick();
        twentiethHop();
        nineteenthHop();
        blowLimits();
        putLimits();
        takeLimits();
        sowLimits();
        turnLimits();
        twentyActs();
        undoThenAct();
        redoTillAnotherAct();
        whatIsNoAct();
        check.finish("EdgeActTest");
    }

    /** "lower by more than slope": by just so much it stays, by one more a slab goes. */
    private static void settledByMoreThanSlope() {
        for (int slope = 1; slope <= 9; slope++) {
            String told = "size 4 by 3;sand 2;slope " + slope + ";heap 1 1 ";
            if (slope > 1) {
                check.due("below", Check.fieldOf(told + (slope - 1) + ";").cell(5, 0), slope + 1);
            }
            SandMarch at = Check.fieldOf(told + slope + ";");
            check.due("at slope " + slope, at.cell(5, 0), slope + 2);
            check.due("just so steep", at.all(4), slope);
            SandMarch above = Check.fieldOf(told + (slope + 1) + ";");
            check.due("one above slope " + slope, above.cell(5, 0), slope + 2);
            check.due("it went east", above.cell(6, 0), 3);
            check.due("no other", above.all(0), 24 + slope + 1);
        }
    }

    /** "the first such CELL gives a slab": the last one, or the highest one first, would end otherwise. */
    private static void settledFirstCellFirst() {
        // 3 0 3 0: cell 0 gives east, then west, and then only cell 2 is steep
        check.dueHeights("in one row", Check.fieldOf("size 4 by 1;sand 0;slope 1;heap 0 0 3;heap 2 0 3;"), "1 1 2 2");
        check.dueHeights("by rows", Check.fieldOf("size 3 by 3;sand 0;slope 1;heap 0 0 2;heap 2 0 4;"), "1 1 2 0 0 1 0 0 1");
        check.dueHeights("not the highest", Check.fieldOf("size 5 by 1;sand 0;slope 1;heap 0 0 3;heap 1 0 8;"), "3 3 2 1 2");
    }

    /** "gives a slab to its lowest one". */
    private static void settledToTheLowest() {
        int[][] sides = {{2, 1, 5}, {1, 2, 7}, {0, 1, 3}, {1, 0, 1}};
        for (int low = 0; low < 4; low++) {
            StringBuilder text = new StringBuilder("size 3 by 3;sand 1;slope 3;heap 1 1 4;");
            for (int side = 0; side < 4; side++) {
                if (side != low) {
                    text.append("heap ").append(sides[side][0]).append(' ').append(sides[side][1]).append(" 1;");
                }
            }
            SandMarch x = Check.fieldOf(text.toString());
            check.due("the middle gave one", x.cell(4, 0), 4);
            check.due("the lowest, " + WAYS[low] + ", got it", x.cell(sides[low][2], 0), 2);
        }
        // two are low enough, one of them lower: east 1, west 0 against 4 with slope 2
        check.dueHeights("the lower one of two", Check.fieldOf("size 4 by 1;sand 0;slope 2;heap 1 0 4;heap 2 0 1;heap 3 0 1;"),
                "1 3 1 1");
    }

    private static void settledRoundTheEdge() {
        check.dueHeights("east of the last is the first", Check.fieldOf("size 4 by 1;sand 1;slope 2;heap 3 0 3;"), "2 1 1 3");
        check.dueHeights("west of the first is the last",
                Check.fieldOf("size 4 by 1;sand 1;slope 2;heap 0 0 3;heap 1 0 1;"), "3 2 1 2");
        check.dueHeights("south of the last row is the first",
                Check.fieldOf("size 3 by 3;sand 1;slope 2;heap 1 2 3;heap 2 2 1;heap 0 2 1;"), "1 2 1 1 1 1 2 3 2");
        check.dueHeights("north of the first row is the last",
                Check.fieldOf("size 3 by 3;sand 1;slope 2;heap 1 0 3;heap 2 0 1;heap 0 0 1;heap 1 1 1;"), "2 3 2 1 2 1 1 2 1");
        check.dueHeights("of one row none to the south", Check.fieldOf("size 3 by 1;sand 1;slope 1;heap 1 0 3;"), "2 2 2");
    }

    /** "if a NEIGHBOUR is higher than it by more than slope, a slab comes". */
    private static void fillByMoreThanSlope() {
        for (int slope = 1; slope <= 9; slope++) {
            String told = "size 5 by 1;sand 3;slope " + slope + ";heap 1 0 ";
            SandMarch steep = Check.fieldOf(told + slope + ";");
            check.due("take by the foot of " + slope, steep.take(0), 3);
            check.due("it came from the high one", steep.cell(1, 0), slope + 2);
            if (slope > 1) {
                SandMarch less = Check.fieldOf(told + (slope - 1) + ";");
                check.due("just slope then", less.take(0), 2);
                check.due("none came", less.cell(1, 0), slope + 2);
                check.due("so steep it is", less.all(4), slope);
            }
        }
    }

    /** "the highest one (of like ones the first)": east, south, west, north. */
    private static void fillFromTheFirstOfLikeOnes() {
        int[][] sides = {{2, 1, 5}, {1, 2, 7}, {0, 1, 3}, {1, 0, 1}};
        for (int mask = 1; mask < 16; mask++) {
            StringBuilder text = new StringBuilder("size 3 by 3;sand 2;slope 1;");
            for (int side = 0; side < 4; side++) {
                if ((mask >> side & 1) == 1) {
                    text.append("heap ").append(sides[side][0]).append(' ').append(sides[side][1]).append(" 1;");
                }
            }
            SandMarch x = Check.fieldOf(text.toString());
            check.due("take(4)", x.take(4), 2);
            int first = Integer.numberOfTrailingZeros(mask);
            for (int side = 0; side < 4; side++) {
                boolean high = (mask >> side & 1) == 1 && side != first;
                check.due("mask " + mask + " " + WAYS[side], x.cell(sides[side][2], 0), high ? 3 : 2);
            }
        }
        // of two rows the one to the south is the one to the north
        SandMarch two = Check.fieldOf("size 3 by 2;sand 2;slope 1;heap 1 1 1;");
        check.due("two rows", two.take(1), 2);
        check.due("two rows", two.cell(4, 0), 2);
        // round the edge
        SandMarch edge = Check.fieldOf("size 4 by 1;sand 2;slope 1;heap 0 0 1;");
        check.due("from the first to the last", edge.take(3), 2);
        check.due("from the first to the last", edge.cell(0, 0), 2);
    }

    /** "and that one is FILLED". */
    private static void fillGoesOn() {
        SandMarch x = Check.fieldOf("size 9 by 1;sand 0;slope 2;heap 0 0 1;heap 1 0 3;heap 2 0 5;heap 3 0 7;heap 4 0 6;heap 5 0 4;"
                + "heap 6 0 2;");
        check.dueHeights("told", x, "1 3 5 7 6 4 2 0 0");
        check.due("take(0)", x.take(0), 1);
        check.dueHeights("the top came down by one", x, "1 3 5 6 6 4 2 0 0");
        check.due("take(0) again", x.take(0), 1);
        check.dueHeights("as far as it is too steep", x, "1 3 4 6 6 4 2 0 0");
        check.due("the next would stop sooner", x.take(0), 1);
        check.dueHeights("as far as it is too steep", x, "1 2 4 6 6 4 2 0 0");
        check.due("and sooner", x.take(0), 0);
        check.dueHeights("none came", x, "0 2 4 6 6 4 2 0 0");
    }

    /** "if a NEIGHBOUR is lower than it by more than slope, a slab goes". */
    private static void spillByMoreThanSlope() {
        for (int slope = 1; slope <= 9; slope++) {
            SandMarch x = Check.fieldOf("size 5 by 3;sand 2;slope " + slope + ";");
            for (int i = 1; i <= slope; i++) {
                check.due("put by slope " + slope, x.put(7, 1), 2 + i);
            }
            check.due("just so steep", x.all(4), slope);
            check.due("one more slides", x.put(7, 1), 2 + slope);
            check.due("to the east", x.cell(8, 0), 3);
            check.due("all slabs", x.all(0), 30 + slope + 1);
        }
    }

    private static void spillToTheFirstOfLikeOnes() {
        int[][] sides = {{2, 1, 5}, {1, 2, 7}, {0, 1, 3}, {1, 0, 1}};
        for (int mask = 1; mask < 16; mask++) {
            StringBuilder text = new StringBuilder("size 3 by 3;sand 1;slope 1;heap 1 1 1;");
            for (int side = 0; side < 4; side++) {
                if ((mask >> side & 1) == 0) {
                    text.append("heap ").append(sides[side][0]).append(' ').append(sides[side][1]).append(" 1;");
                }
            }
            SandMarch x = Check.fieldOf(text.toString());
            check.due("put(4, 1)", x.put(4, 1), 2);
            int first = Integer.numberOfTrailingZeros(mask);
            for (int side = 0; side < 4; side++) {
                boolean low = (mask >> side & 1) == 1 && side != first;
                check.due("mask " + mask + " " + WAYS[side], x.cell(sides[side][2], 0), low ? 1 : 2);
            }
        }
        SandMarch edge = Check.fieldOf("size 4 by 1;sand 1;slope 1;heap 3 0 1;");
        check.due("from the last to the first", edge.put(3, 1), 2);
        check.due("from the last to the first", edge.cell(0, 0), 2);
    }

    /** "and that one SPILLS"; "slabs are put on a CELL one by one, each time it SPILLS". */
    private static void spillGoesOn() {
        SandMarch x = Check.fieldOf("size 9 by 1;sand 0;slope 2;heap 0 0 6;heap 1 0 4;heap 2 0 2;heap 8 0 6;heap 7 0 6;heap 6 0 4;"
                + "heap 5 0 2;");
        check.dueHeights("told", x, "6 4 2 0 0 2 4 6 6");
        check.due("put(0, 1)", x.put(0, 1), 6);
        check.dueHeights("down to the foot", x, "6 4 2 1 0 2 4 6 6");
        check.due("put(0, 1) again", x.put(0, 1), 6);
        check.dueHeights("as far as it is too steep", x, "6 4 3 1 0 2 4 6 6");
        SandMarch once = Check.fieldOf("size 5 by 2;sand 1;slope 1;");
        SandMarch oneByOne = Check.fieldOf("size 5 by 2;sand 1;slope 1;");
        once.put(3, 50);
        for (int i = 0; i < 50; i++) {
            oneByOne.put(3, 1);
        }
        check.dueHeights("fifty at once as one by one", once, Check.heights(oneByOne));
    }

    /** "the SEED becomes its 137-fold and 71 more, modulo 10,007". */
    private static void drawsOfTheSeed() {
        for (int seed : new int[] {0, 1, 72, 73, 145, 146, 5000, 9998, 9999}) {
            SandMarch x = Check.fieldOf("size 3 by 1;sand 0;draw " + seed + ";");
            int s = seed;
            for (int i = 0; i < 30; i++) {
                check.due("an idle try", x.blow(1), 0);
                s = (s * 137 + 71) % 10007;
                check.due("seed " + seed + " behind " + i, x.about(3), s);
            }
        }
        // one by which the seed is above 9,999
        SandMarch high = Check.fieldOf("size 3 by 1;sand 0;draw " + seedBefore(10006) + ";");
        high.blow(1);
        check.due("10,006", high.about(3), 10006);
        high.blow(1);
        check.due("behind 10,006", high.about(3), (10006 * 137 + 71) % 10007);
        SandMarch zero = Check.fieldOf("size 3 by 1;sand 0;draw " + seedBefore(0) + ";");
        zero.blow(1);
        check.due("0", zero.about(3), 0);
    }

    private static int seedBefore(int seed) {
        int before = 0;
        while (Draws.next(before) != seed) {
            before++;
        }
        return before;
    }

    /** "a DRAW of how many CELLS there are: that CELL", the first and the last one, too. */
    private static void drawnCell() {
        for (int[] size : new int[][] {{3, 1}, {8, 4}, {12, 8}, {7, 5}}) {
            int cells = size[0] * size[1];
            for (int cell : new int[] {0, 1, size[0] - 1, cells - 2, cells - 1}) {
                int seed = Draws.seedFor(cells, cell);
                SandMarch x = Check.fieldOf("size " + size[0] + " by " + size[1] + ";sand 2;" + PLAIN + "draw " + seed + ";");
                check.due("blow(1)", x.blow(1), 1);
                check.due("taken from " + cell + " of " + cells, x.cell(cell, 0), 1);
                check.due("to the east of it", x.cell(x.beside(cell, 0), 0), 3);
                check.due("two draws", x.about(3), Draws.behind(seed, 2));
            }
        }
    }

    /** "Is it BARE, is there grass, or SHADOW: no more (it is IDLE)." */
    private static void idleOrNot() {
        int seed = Draws.seedFor(5, 1);
        String ahead = "size 5 by 1;slope 9;hop 1;stick 16 16;shadow 3;draw " + seed + ";";
        String[] idle = {"sand 0;", "sand 1;grass 1 0;", "sand 1;heap 0 0 3;", "sand 1;heap 4 0 6;", "sand 0;heap 0 0 9;grass 1 0;"};
        for (String text : idle) {
            SandMarch x = Check.fieldOf(ahead + text);
            String before = Check.heights(x);
            check.due("idle: " + text, x.blow(1), 0);
            check.dueHeights("nothing moved: " + text, x, before);
            check.due("one draw: " + text, x.about(3), Draws.next(seed));
            check.due("a try all the same: " + text, x.about(4), 1);
            check.due("an act all the same: " + text, x.about(12), 1);
        }
        String[] busy = {"sand 1;", "sand 0;heap 1 0 1;", "sand 1;grass 0 0;grass 2 0;", "sand 1;heap 0 0 2;", "sand 1;heap 4 0 5;"};
        for (String text : busy) {
            SandMarch x = Check.fieldOf(ahead + text);
            int before = x.cell(1, 0);
            check.due("not idle: " + text, x.blow(1), 1);
            check.due("taken: " + text, x.cell(1, 0), before - 1);
            check.due("one higher: " + text, x.all(0), Check.fieldOf(ahead + text).all(0));
        }
        // the wind of that try counts: the second one blows west
        SandMarch turn = Check.fieldOf("size 5 by 1;slope 9;hop 1;stick 16 16;shadow 3;sand 1;heap 0 0 3;grass 0 0;wind east 1 west 1;"
                + "draw " + seed + ";");
        check.due("all but the heap and its lee", turn.all(6), 3);
        turn.blow(1);
        check.due("by the next wind", turn.all(6), 3);
        check.due("no shadow to the east by the west wind", turn.cell(1, 1), 0);
        check.due("but to the west", turn.cell(4, 1), 1);
    }

    /** "so many CELLS with the WIND". */
    private static void hopsOfEachLength() {
        int[] columnsOf = {1, 0, -1, 0};
        int[] rowsOf = {0, 1, 0, -1};
        for (int hop = 1; hop <= 6; hop++) {
            for (int way = 0; way < 4; way++) {
                int cell = 4 * 9 + 4;
                int seed = Draws.seedFor(72, cell);
                SandMarch x = Check.fieldOf("size 9 by 8;sand 1;slope 9;shadow 9;stick 16 16;hop " + hop + ";wind " + WAYS[way]
                        + " 1;draw " + seed + ";");
                x.blow(1);
                int column = Math.floorMod(4 + hop * columnsOf[way], 9);
                int row = Math.floorMod(4 + hop * rowsOf[way], 8);
                check.due("taken", x.cell(cell, 0), 0);
                check.due("hop " + hop + " " + WAYS[way], x.cell(row * 9 + column, 0), 2);
            }
        }
    }

    /** "there it comes down, if SHADOW lies there" (no DRAW); by the sand without the slab, FILLED. */
    private static void downInShadow() {
        int seed = Draws.seedFor(6, 1);
        String ahead = "size 6 by 1;sand 0;slope 9;shadow 4;hop 1;stick 0 0;draw " + seed + ";heap 1 0 ";
        SandMarch at = Check.fieldOf(ahead + "5;");
        at.blow(1);
        check.dueHeights("4 are left: shadow", at, "0 4 1 0 0 0");
        check.due("one draw", at.about(3), Draws.next(seed));
        SandMarch below = Check.fieldOf(ahead + "4;");
        check.due("shadow before it is taken", below.cell(2, 1), 1);
        check.due("20 hops", below.next(1, 1), 20);
        below.blow(1);
        check.dueHeights("3 are left: no shadow", below, "0 3 0 1 0 0");
        check.due("20 draws", below.about(3), Draws.behind(seed, 20));
    }

    /** "a DRAW of 16 is made: below stick (of sand, or of BARE ground) it comes down". */
    private static void belowStick() {
        boolean[] met = new boolean[16];
        for (int seed = 0; seed < 400; seed++) {
            if (Draws.next(seed) % 5 != 0) {
                continue;
            }
            int draw = Draws.behind(seed, 2) % 16;
            if (met[draw]) {
                continue;
            }
            met[draw] = true;
            for (int stick : new int[] {draw, draw + 1}) {
                boolean down = draw < stick;
                // hop 1 lands on bare ground, hop 2 on sand
                String ahead = "size 5 by 1;sand 0;slope 9;shadow 9;heap 0 0 2;heap 2 0 2;draw " + seed + ";";
                SandMarch bare = Check.fieldOf(ahead + "hop 1;stick " + (down ? 0 : 16) + " " + stick + ";");
                bare.blow(1);
                check.due("draw " + draw + ", bare stick " + stick, bare.cell(1, 0), down ? 1 : 0);
                SandMarch sand = Check.fieldOf(ahead + "hop 2;stick " + stick + " " + (down ? 0 : 16) + ";");
                sand.blow(1);
                check.due("draw " + draw + ", sand stick " + stick, sand.cell(2, 0), down ? 3 : 2);
            }
        }
        for (int draw = 0; draw < 16; draw++) {
            check.due("a draw of " + draw + " was met", met[draw], true);
        }
    }

    /** "at its 20th hop it comes down in any case (no DRAW is made)". */
    private static void twentiethHop() {
        for (int columns = 3; columns <= 12; columns++) {
            for (int hop = 1; hop <= 6; hop++) {
                int seed = Draws.seedFor(columns, 0);
                String told = "size " + columns + " by 1;sand 2;slope 9;shadow 9;stick 0 0;hop " + hop + ";draw " + seed + ";";
                SandMarch x = Check.fieldOf(told);
                check.due("twenty hops", x.next(1, 1), 20);
                check.due("not idle", x.blow(1), 1);
                int at = 20 * hop % columns;
                check.due(told, x.cell(at, 0), at == 0 ? 2 : 3);
                check.due("a draw for the cell, and 19", x.about(3), Draws.behind(seed, 20));
            }
        }
    }

    /** A DRAW is made at the 19th hop still, and at the 1st. */
    private static void nineteenthHop() {
        int[] met = new int[21];
        for (int seed = 0; seed < 10000; seed++) {
            if (Draws.next(seed) % 12 != 0) {
                continue;
            }
            int hops = 1;
            while (hops < 20 && Draws.behind(seed, hops + 1) % 16 != 0) {
                hops++;
            }
            if (met[hops] > 1) {
                continue;
            }
            met[hops]++;
            SandMarch x = Check.fieldOf("size 12 by 1;sand 2;slope 9;shadow 9;hop 1;stick 1 1;draw " + seed + ";");
            check.due(hops + " hops", x.next(1, 1), hops);
            x.blow(1);
            check.due("down at hop " + hops, x.cell(hops % 12, 0), hops == 12 ? 2 : 3);
            check.due("draws of hop " + hops, x.about(3), Draws.behind(seed, 1 + Math.min(hops, 19)));
        }
        for (int hops = 1; hops <= 20; hops++) {
            check.due("a slab of " + hops + " hops was met", met[hops] > 0, true);
        }
    }

    /** "n (1 .. 500) TRIES: how many were not IDLE; NONE, doing nothing, for another number." */
    private static void blowLimits() {
        String told = "size 5 by 3;sand 2;heap 1 1 5;draw 41;";
        for (int n : new int[] {1, 2, 499, 500}) {
            SandMarch x = Check.fieldOf(told);
            SandMarch y = Check.fieldOf(told);
            int busy = 0;
            int left = n;
            while (left > 0) {
                int some = Math.min(left, 7);
                busy += y.blow(some);
                left -= some;
            }
            check.due("blow(" + n + ")", x.blow(n), busy);
            check.due("tries", x.about(4), n);
            check.due("one act", x.about(12), 1);
            check.dueHeights("as by sevens", x, Check.heights(y));
            check.due("seed", x.about(3), y.about(3));
        }
        SandMarch x = Check.fieldOf(told);
        for (int n : new int[] {0, -1, 501, 1000, MIN, MAX}) {
            check.due("blow(" + n + ")", x.blow(n), -1);
            check.due("tries", x.about(4), 0);
            check.due("acts", x.about(12), 0);
        }
    }

    /** "So many slabs (1 .. 50) are put on a CELL: its HEIGHT then". */
    private static void putLimits() {
        for (int slabs : new int[] {1, 2, 49, 50}) {
            for (int cell : new int[] {0, 1, 14}) {
                SandMarch x = Check.fieldOf("size 5 by 3;sand 0;slope 9;");
                int height = x.put(cell, slabs);
                check.due("put(" + cell + ", " + slabs + ")", height, x.cell(cell, 0));
                check.due("all slabs", x.all(0), slabs);
                check.due("one act", x.about(12), 1);
                check.due("no try", x.about(4), 0);
                check.due("undo()", x.undo(), true);
                check.due("none of them is there", x.all(0), 0);
            }
        }
        SandMarch x = Check.fieldOf("size 5 by 3;sand 0;");
        for (int[] w : new int[][] {{0, 0}, {0, -1}, {0, 51}, {0, 52}, {0, MIN}, {0, MAX}, {-1, 1}, {15, 1}, {16, 1}, {MIN, 1},
            {MAX, 1}}) {
            check.due("put(" + w[0] + ", " + w[1] + ")", x.put(w[0], w[1]), -1);
            check.due("no slab", x.all(0), 0);
            check.due("no act", x.about(12), 0);
        }
        SandMarch grass = Check.fieldOf("size 5 by 3;sand 0;grass 0 0;");
        check.due("where grass is, too", grass.put(0, 2), 2);
    }

    /** "NONE, doing nothing, if there is none such, or it is BARE." */
    private static void takeLimits() {
        SandMarch x = Check.fieldOf("size 5 by 3;sand 0;slope 9;heap 0 0 2;heap 4 2 1;");
        for (int cell : new int[] {-1, 15, 16, MIN, MAX, 1, 13}) {
            check.due("take(" + cell + ")", x.take(cell), -1);
            check.due("no act", x.about(12), 0);
        }
        check.due("take(0)", x.take(0), 1);
        check.due("take(0)", x.take(0), 0);
        check.due("take(0)", x.take(0), -1);
        check.due("take(14)", x.take(14), 0);
        check.due("take(14)", x.take(14), -1);
        check.due("three acts", x.about(12), 3);
        // being filled, it answers its height then; shadow and grass don't matter
        SandMarch y = Check.fieldOf("size 5 by 1;sand 1;slope 1;heap 1 0 1;grass 2 0;shadow 1;");
        check.due("in shadow, with grass", y.cell(2, 1) + y.cell(2, 2), 2);
        check.due("filled", y.take(2), 1);
        check.dueHeights("from the west", y, "1 1 1 1 1");
    }

    /** "NONE, doing nothing, if there is none such, or it is so." */
    private static void sowLimits() {
        SandMarch x = Check.fieldOf("size 3 by 2;grass 1 0;");
        for (int cell : new int[] {-1, 6, 7, MIN, MAX}) {
            check.due("sow(" + cell + ", true)", x.sow(cell, true), -1);
            check.due("sow(" + cell + ", false)", x.sow(cell, false), -1);
        }
        check.due("it is so", x.sow(1, true), -1);
        check.due("it is so", x.sow(0, false), -1);
        check.due("no act", x.about(12), 0);
        int[] cells = {0, 2, 3, 4, 5};
        for (int i = 0; i < 5; i++) {
            check.due("sow(" + cells[i] + ", true)", x.sow(cells[i], true), i + 2);
            check.due("sow(" + cells[i] + ", true) again", x.sow(cells[i], true), -1);
        }
        check.due("everywhere", x.about(10), 6);
        for (int cell = 0; cell < 6; cell++) {
            check.due("sow(" + cell + ", false)", x.sow(cell, false), 5 - cell);
            check.due("sow(" + cell + ", false) again", x.sow(cell, false), -1);
        }
        check.due("acts", x.about(12), 11);
        check.due("heights stay", x.all(0), 18);
    }

    /** "is v from now on (as in a text): what it was; NONE, doing nothing, if it can't be." */
    private static void turnLimits() {
        int[] least = {1, 1, 0, 0};
        int[] most = {6, 9, 16, 16};
        int[] about = {5, 6, 8, 9};
        int[] told = {2, 2, 10, 6};
        for (int rule = 0; rule < 4; rule++) {
            SandMarch x = Check.fieldOf("size 3 by 1;");
            for (int v : new int[] {least[rule] - 1, most[rule] + 1, MIN, MAX}) {
                check.due("turn(" + rule + ", " + v + ")", x.turn(rule, v), -1);
                check.due("as before", x.about(about[rule]), told[rule]);
                check.due("no act", x.about(12), 0);
            }
            int was = told[rule];
            for (int v = least[rule]; v <= most[rule]; v++) {
                check.due("turn(" + rule + ", " + v + ")", x.turn(rule, v), was);
                check.due("it is", x.about(about[rule]), v);
                was = v;
            }
            for (int other = 0; other < 4; other++) {
                check.due("the others stay", x.about(about[other]), other == rule ? most[other] : told[other]);
            }
            check.due("an act each", x.about(12), most[rule] - least[rule] + 1);
        }
        SandMarch x = Check.fieldOf("size 3 by 1;");
        for (int rule : new int[] {-1, 4, 5, MIN, MAX}) {
            check.due("turn(" + rule + ", 1)", x.turn(rule, 1), -1);
        }
        // "(An ACT in any other case.)"
        check.due("to what it is", x.turn(2, 10), 10);
        check.due("an act", x.about(12), 1);
        turnedRulesCount();
    }

    private static void turnedRulesCount() {
        int seed = Draws.seedFor(6, 1);
        String told = "size 6 by 1;sand 0;slope 9;heap 1 0 4;hop 1;shadow 9;stick 16 16;draw " + seed + ";";
        SandMarch hop = Check.fieldOf(told);
        hop.turn(0, 3);
        hop.blow(1);
        check.dueHeights("hop", hop, "0 3 0 0 1 0");
        SandMarch shadow = Check.fieldOf(told);
        shadow.turn(3, 0);
        shadow.turn(2, 0);
        shadow.turn(1, 3);
        check.due("shadow", shadow.cell(2, 1), 1);
        shadow.blow(1);
        check.dueHeights("caught by the shadow", shadow, "0 3 1 0 0 0");
        SandMarch bare = Check.fieldOf(told);
        bare.turn(3, 0);
        bare.blow(1);
        check.dueHeights("not on bare ground: round to the sand", bare, "0 4 0 0 0 0");
        SandMarch sand = Check.fieldOf(told);
        sand.turn(3, 0);
        sand.turn(2, 0);
        sand.blow(1);
        check.dueHeights("nowhere: 20 hops", sand, "0 3 0 1 0 0");
    }

    private static void acts(SandMarch x, int count) {
        for (int i = 0; i < count; i++) {
            x.put(0, 1);
        }
    }

    /** "20 at most are kept, the oldest go." */
    private static void twentyActs() {
        for (int count : new int[] {0, 1, 19, 20, 21, 22, 45}) {
            SandMarch x = Check.fieldOf("size 3 by 1;sand 0;slope 9;");
            acts(x, count);
            int kept = Math.min(count, 20);
            check.due(count + " acts: kept", x.about(12), kept);
            for (int i = 0; i < kept; i++) {
                check.due("undo()", x.undo(), true);
                check.due("one slab less", x.all(0), count - 1 - i);
                check.due("to be undone", x.about(12), kept - 1 - i);
                check.due("to be redone", x.about(13), i + 1);
            }
            check.due("no more", x.undo(), false);
            check.due("slabs", x.all(0), count - kept);
            for (int i = 0; i < kept; i++) {
                check.due("redo()", x.redo(), true);
                check.due("one slab more", x.all(0), count - kept + i + 1);
            }
            check.due("no more", x.redo(), false);
            check.due("kept", x.about(12), kept);
        }
    }

    /** What was undone makes room: 20 done, some undone, others done. */
    private static void undoThenAct() {
        for (int undone : new int[] {1, 5, 19, 20}) {
            SandMarch x = Check.fieldOf("size 3 by 1;sand 0;slope 9;");
            acts(x, 20);
            for (int i = 0; i < undone; i++) {
                x.undo();
            }
            check.due("undone", x.about(13), undone);
            x.put(1, 1);
            check.due("done", x.about(12), 21 - undone);
            check.due("nothing to redo", x.about(13), 0);
            check.due("redo()", x.redo(), false);
            for (int i = 0; i < 21 - undone; i++) {
                check.due("undo()", x.undo(), true);
            }
            check.due("all undone", x.all(0), 0);
            check.due("none left", x.undo(), false);
        }
    }

    /** "REDO does that again which was taken back last (till another ACT)": any act, and no refused one. */
    private static void redoTillAnotherAct() {
        for (int act = 0; act < 6; act++) {
            SandMarch x = Check.fieldOf("size 3 by 2;grass 1 0;draw 3;");
            acts(x, 3);
            x.undo();
            x.undo();
            check.due("refused", x.blow(0), -1);
            check.due("refused", x.put(0, 51), -1);
            check.due("refused", x.take(6), -1);
            check.due("refused", x.sow(1, true), -1);
            check.due("refused", x.turn(0, 7), -1);
            check.due("two to redo still", x.about(13), 2);
            switch (act) {
                case 0: x.blow(1); break;
                case 1: x.put(2, 1); break;
                case 2: x.take(2); break;
                case 3: x.sow(2, true); break;
                case 4: x.sow(1, false); break;
                default: x.turn(1, 2); break;
            }
            check.due("act " + act + ": none to redo", x.about(13), 0);
            check.due("redo()", x.redo(), false);
            check.due("two to undo", x.about(12), 2);
        }
        SandMarch x = Check.fieldOf("size 3 by 1;sand 0;slope 9;");
        x.put(0, 1);
        x.put(1, 2);
        x.put(2, 3);
        x.undo();
        x.undo();
        check.due("the last one taken back first", x.redo(), true);
        check.dueHeights("redone", x, "1 2 0");
        check.due("then the other one", x.redo(), true);
        check.dueHeights("redone", x, "1 2 3");
    }

    /** Neither kept nor the end of what can be redone: feed, end, image, seen, untell, later, a faulty field. */
    private static void whatIsNoAct() {
        SandMarch x = Check.fieldOf("size 3 by 2;draw 3;");
        acts(x, 3);
        x.undo();
        x.feed(0, 0, 0, 0, 0);
        x.end(3);
        x.field();
        x.image(1);
        x.seen(1, 1, 1, true);
        x.untell(0);
        x.later(3);
        check.due("two to undo", x.about(12), 2);
        check.due("one to redo", x.about(13), 1);
        x.undo();
        check.due("seen stays", x.about(14), 1);
        check.due("the time stays", x.about(15), 3);
        check.due("the box stays", x.shift(1, 0), 0);
        // "no ACTS are kept then"
        check.due("back(1)", x.back(1), 20);
        check.due("none to undo", x.about(12), 0);
        check.due("none to redo", x.about(13), 0);
        check.due("undo()", x.undo(), false);
        check.due("redo()", x.redo(), false);
    }
}
