/** Promises 9 to 15: blow, put, take, sow, turn, undo, redo. */
public final class ActTest {
    private static final Check check = new Check();

    public static void main(String[] args) {
        blowing();
        idleTries();
        comingDown();
        filling();
        putting();
        taking();
        sowing();
        turning();
        undoing();
        keepingTwenty();
        check.finish("ActTest");
    }

    private static void blowing() {
        SandMarch x = Check.fieldOf("size 3 by 1;sand 1;hop 1;slope 9;shadow 9;stick 16 16;");
        String[] want = {"2 1 0", "2 0 1", "3 0 0", "2 1 0"};
        int[] seeds = {9798, 9821, 1200, 6841};
        for (int i = 0; i < 4; i++) {
            check.due("blow(1)", x.blow(1), 1);
            check.dueHeights("try " + i, x, want[i]);
            check.due("seed", x.about(3), seeds[i]);
            check.due("tries", x.about(4), i + 1);
        }
        SandMarch y = Check.fieldOf("size 3 by 1;sand 1;hop 1;slope 9;shadow 9;stick 16 16;");
        check.due("blow(4)", y.blow(4), 4);
        check.dueHeights("four at once", y, "2 1 0");
        check.due("one act", y.about(12), 1);
        for (int n : new int[] {0, -1, 501, Integer.MAX_VALUE, Integer.MIN_VALUE}) {
            check.due("blow(" + n + ")", y.blow(n), -1);
        }
        check.due("nothing done", y.about(4), 4);
        check.due("nothing done", y.about(12), 1);
        check.due("500 tries", y.blow(500) >= 0, true);
        check.due("tries", y.about(4), 504);
        check.due("slabs", y.all(0), 3);
    }

    private static void idleTries() {
        SandMarch bare = Check.fieldOf("size 4 by 2;sand 0;draw 5;");
        check.due("bare", bare.blow(7), 0);
        check.due("a draw for each try", bare.about(3), Draws.behind(5, 7));
        check.due("idle tries count", bare.about(4), 7);
        SandMarch grass = Check.fieldOf("size 3 by 1;grass 0 0;grass 1 0;grass 2 0;draw 5;");
        check.due("grass", grass.blow(7), 0);
        check.due("a draw for each try", grass.about(3), Draws.behind(5, 7));
        // cell 3 lies in the shadow of cell 2
        int seed = Draws.seedFor(5, 3);
        SandMarch dark = Check.fieldOf("size 5 by 1;sand 1;heap 2 0 3;slope 9;draw " + seed + ";");
        check.due("shadow", dark.blow(1), 0);
        check.due("one draw", dark.about(3), Draws.next(seed));
        check.dueHeights("nothing moved", dark, "1 1 4 1 1");
    }

    private static void comingDown() {
        // in shadow without a draw
        int seed = Draws.seedFor(5, 2);
        SandMarch x = Check.fieldOf("size 5 by 1;sand 0;heap 2 0 5;slope 9;hop 1;stick 0 0;draw " + seed + ";");
        check.due("blow(1)", x.blow(1), 1);
        check.dueHeights("caught by shadow", x, "0 0 4 1 0");
        check.due("no draw in shadow", x.about(3), Draws.next(seed));
        // the shadow is that of the sand without the slab: 2 - 1 is below 2, so it goes on to the 20th hop
        SandMarch y = Check.fieldOf("size 5 by 1;sand 0;heap 2 0 2;slope 9;hop 1;stick 0 0;draw " + seed + ";");
        check.due("blow(1)", y.blow(1), 1);
        check.dueHeights("20 hops", y, "0 0 2 0 0");
        check.due("19 draws for 20 hops", y.about(3), Draws.behind(seed, 20));
        SandMarch z = Check.fieldOf("size 7 by 1;sand 1;slope 9;shadow 9;hop 5;stick 0 0;wind west 1;draw "
                + Draws.seedFor(7, 0) + ";");
        z.blow(1);
        // 100 cells west of cell 0, of seven
        check.dueHeights("100 west", z, "0 1 1 1 1 2 1");
        // what lies there says which stick counts
        String ahead = "size 4 by 1;sand 0;slope 9;shadow 9;hop 1;heap 0 0 1;heap 2 0 1;";
        int first = Draws.seedFor(4, 0);
        SandMarch onSand = Check.fieldOf(ahead + "stick 16 0;draw " + first + ";");
        onSand.blow(1);
        check.dueHeights("sticks on sand", onSand, "0 0 2 0");
        SandMarch onBare = Check.fieldOf(ahead + "stick 0 16;draw " + first + ";");
        onBare.blow(1);
        check.dueHeights("sticks on bare ground", onBare, "0 1 1 0");
        for (int stick = 0; stick <= 16; stick++) {
            SandMarch one = Check.fieldOf(ahead + "stick 0 " + stick + ";draw " + first + ";");
            one.blow(1);
            boolean below = Draws.behind(first, 2) % 16 < stick;
            check.due("a draw below stick " + stick, one.cell(1, 0) == 1, below);
        }
        // it may come down where it was taken, and spills there
        SandMarch round = Check.fieldOf("size 3 by 1;sand 1;slope 9;shadow 9;hop 3;stick 16 16;");
        check.due("round", round.blow(5), 5);
        check.dueHeights("all come back", round, "1 1 1");
        // the wind goes south and north, too
        SandMarch south = Check.fieldOf("size 3 by 3;sand 1;slope 9;shadow 9;hop 1;stick 16 16;wind south 1;draw "
                + Draws.seedFor(9, 7) + ";");
        south.blow(1);
        check.dueHeights("south, round the edge", south, "1 2 1 1 1 1 1 0 1");
        SandMarch north = Check.fieldOf("size 3 by 3;sand 1;slope 9;shadow 9;hop 1;stick 16 16;wind north 1;draw "
                + Draws.seedFor(9, 1) + ";");
        north.blow(1);
        check.dueHeights("north, round the edge", north, "1 0 1 1 1 1 1 2 1");
    }

    private static void filling() {
        SandMarch x = Check.fieldOf("size 4 by 1;sand 1;heap 1 0 1;slope 1;hop 2;stick 16 16;shadow 9;draw "
                + Draws.seedFor(4, 0) + ";");
        check.dueHeights("told", x, "1 2 1 1");
        x.blow(1);
        check.dueHeights("filled, then carried", x, "1 1 2 1");
        // of like ones the first: east, south, west, north
        String ahead = "size 3 by 3;sand 2;slope 1;";
        SandMarch east = Check.fieldOf(ahead + "heap 1 0 1;heap 0 1 1;heap 2 1 1;heap 1 2 1;");
        east.take(4);
        check.dueHeights("from the east", east, "2 3 2 3 2 2 2 3 2");
        SandMarch south = Check.fieldOf(ahead + "heap 1 0 1;heap 0 1 1;heap 1 2 1;");
        south.take(4);
        check.dueHeights("from the south", south, "2 3 2 3 2 2 2 2 2");
        SandMarch west = Check.fieldOf(ahead + "heap 1 0 1;heap 0 1 1;");
        west.take(4);
        check.dueHeights("from the west", west, "2 3 2 2 2 2 2 2 2");
        SandMarch north = Check.fieldOf(ahead + "heap 1 0 1;");
        north.take(4);
        check.dueHeights("from the north", north, "2 2 2 2 2 2 2 2 2");
        // the one that gave is filled, too
        SandMarch chain = Check.fieldOf("size 7 by 1;sand 1;slope 1;heap 1 0 1;heap 2 0 2;heap 3 0 3;heap 4 0 2;heap 5 0 1;");
        check.dueHeights("told", chain, "1 2 3 4 3 2 1");
        check.due("take(0)", chain.take(0), 1);
        check.dueHeights("a chain", chain, "1 2 3 3 3 2 1");
    }

    private static void putting() {
        SandMarch x = Check.fieldOf("size 3 by 1;sand 0;slope 1;");
        check.due("put(0, 1)", x.put(0, 1), 1);
        check.dueHeights("one", x, "1 0 0");
        check.due("put(0, 1)", x.put(0, 1), 1);
        check.dueHeights("to the east first", x, "1 1 0");
        check.due("put(0, 1)", x.put(0, 1), 1);
        check.dueHeights("to the lowest", x, "1 1 1");
        check.due("acts", x.about(12), 3);
        for (int[] wrong : new int[][] {{3, 1}, {-1, 1}, {0, 0}, {0, -1}, {0, 51}, {Integer.MAX_VALUE, 1}}) {
            check.due("put(" + wrong[0] + ", " + wrong[1] + ")", x.put(wrong[0], wrong[1]), -1);
        }
        check.due("nothing done", x.all(0), 3);
        check.due("acts", x.about(12), 3);
        check.due("put(1, 50)", x.put(1, 50) > 15, true);
        check.due("all slabs", x.all(0), 53);
        check.due("no more than the slope", x.all(4) <= 1, true);
        SandMarch steep = Check.fieldOf("size 3 by 1;sand 0;slope 9;");
        check.due("put(2, 9)", steep.put(2, 9), 9);
        check.due("put(2, 1)", steep.put(2, 1), 9);
        check.dueHeights("east of the last is the first", steep, "1 0 9");
        // the one that got it spills, too
        SandMarch chain = Check.fieldOf("size 7 by 1;sand 0;slope 1;heap 1 0 1;heap 2 0 2;heap 3 0 3;heap 4 0 2;heap 5 0 1;");
        check.dueHeights("told", chain, "0 1 2 3 2 1 0");
        check.due("put(3, 1)", chain.put(3, 1), 3);
        check.dueHeights("a chain", chain, "0 1 2 3 2 1 1");
    }

    private static void taking() {
        SandMarch x = Check.fieldOf("size 3 by 1;sand 1;slope 9;grass 0 0;");
        check.due("take(0) with grass", x.take(0), 0);
        check.due("take(0) bare", x.take(0), -1);
        check.due("take(3)", x.take(3), -1);
        check.due("take(-1)", x.take(-1), -1);
        check.due("acts", x.about(12), 1);
        check.due("tries", x.about(4), 0);
        check.due("seed", x.about(3), 0);
        check.due("slabs", x.all(0), 2);
    }

    private static void sowing() {
        SandMarch x = Check.fieldOf("size 3 by 1;grass 1 0;");
        check.due("sow(1, true)", x.sow(1, true), -1);
        check.due("sow(0, false)", x.sow(0, false), -1);
        check.due("sow(3, true)", x.sow(3, true), -1);
        check.due("sow(-1, false)", x.sow(-1, false), -1);
        check.due("acts", x.about(12), 0);
        check.due("sow(0, true)", x.sow(0, true), 2);
        check.due("sow(1, false)", x.sow(1, false), 1);
        check.due("cell(0, 2)", x.cell(0, 2), 1);
        check.due("cell(1, 2)", x.cell(1, 2), 0);
        check.due("about(10)", x.about(10), 1);
        check.due("acts", x.about(12), 2);
    }

    private static void turning() {
        SandMarch x = new SandMarch();
        int[] was = {2, 2, 10, 6};
        int[] least = {1, 1, 0, 0};
        int[] most = {6, 9, 16, 16};
        int[] told = {5, 6, 8, 9};
        for (int rule = 0; rule < 4; rule++) {
            check.due("too little", x.turn(rule, least[rule] - 1), -1);
            check.due("too much", x.turn(rule, most[rule] + 1), -1);
            check.due("to the least", x.turn(rule, least[rule]), was[rule]);
            check.due("about", x.about(told[rule]), least[rule]);
            check.due("to the most", x.turn(rule, most[rule]), least[rule]);
            check.due("about", x.about(told[rule]), most[rule]);
            check.due("to the same", x.turn(rule, most[rule]), most[rule]);
        }
        check.due("acts, the same ones too", x.about(12), 12);
        check.due("turn(4, 1)", x.turn(4, 1), -1);
        check.due("turn(-1, 1)", x.turn(-1, 1), -1);
        check.due("turn(MAX, 1)", x.turn(Integer.MAX_VALUE, 1), -1);
        check.due("acts", x.about(12), 12);
        check.due("slope stays", x.about(7), 2);
        SandMarch y = Check.fieldOf("size 7 by 1;sand 1;slope 9;shadow 9;hop 1;stick 16 16;draw " + Draws.seedFor(7, 0) + ";");
        y.turn(0, 4);
        y.blow(1);
        check.dueHeights("hops by the new rule", y, "0 1 1 1 2 1 1");
    }

    private static String all(SandMarch x) {
        StringBuilder told = new StringBuilder(Check.heights(x));
        for (int what = 3; what < 12; what++) {
            told.append(' ').append(x.about(what));
        }
        int cells = x.about(2);
        for (int cell = 0; cell < cells; cell++) {
            told.append(x.cell(cell, 2));
        }
        return told.toString();
    }

    /** Fewer calls than all, of which 512 are the most: each act shows in one of these. */
    private static String some(SandMarch x) {
        return x.all(0) + " " + x.all(5) + " " + x.about(3) + " " + x.about(5) + " " + x.about(9) + " " + x.about(10);
    }

    private static void act(SandMarch x, int which) {
        switch (which % 6) {
            case 0: x.blow(3); break;
            case 1: x.put(1, 4); break;
            case 2: x.take(2); break;
            case 3: x.sow(3, x.cell(3, 2) == 0); break;
            case 4: x.turn(0, which % 5 + 1); break;
            default: x.turn(3, which % 16); break;
        }
    }

    private static void undoing() {
        SandMarch x = Check.fieldOf("size 3 by 2;draw 3;");
        String[] states = new String[7];
        states[0] = all(x);
        for (int i = 0; i < 6; i++) {
            act(x, i);
            states[i + 1] = all(x);
        }
        for (int i = 5; i >= 0; i--) {
            check.due("undo()", x.undo(), true);
            check.due("as it was", all(x).equals(states[i]), true);
            check.due("undoable", x.about(12), i);
            check.due("redoable", x.about(13), 6 - i);
        }
        check.due("none to undo", x.undo(), false);
        for (int i = 1; i <= 6; i++) {
            check.due("redo()", x.redo(), true);
            check.due("as it was", all(x).equals(states[i]), true);
        }
        check.due("none to redo", x.redo(), false);
        x.undo();
        x.undo();
        check.due("what can't be is no act", x.blow(0), -1);
        check.due("so redo is kept", x.about(13), 2);
        x.take(0);
        check.due("another act", x.about(12), 5);
        check.due("nothing to redo", x.about(13), 0);
        check.due("redo()", x.redo(), false);
        check.due("undo()", x.undo(), true);
        check.due("as it was", all(x).equals(states[4]), true);
    }

    private static void keepingTwenty() {
        SandMarch x = Check.fieldOf("size 4 by 2;draw 3;");
        String[] states = new String[31];
        states[0] = some(x);
        for (int i = 0; i < 30; i++) {
            act(x, i);
            states[i + 1] = some(x);
        }
        check.due("kept", x.about(12), 20);
        for (int i = 29; i >= 10; i--) {
            check.due("undo()", x.undo(), true);
            check.due("as it was behind " + i, some(x).equals(states[i]), true);
        }
        check.due("the oldest are gone", x.undo(), false);
        check.due("redoable", x.about(13), 20);
        for (int i = 11; i <= 30; i++) {
            check.due("redo()", x.redo(), true);
            check.due("again as behind " + i, some(x).equals(states[i]), true);
        }
        check.due("redo()", x.redo(), false);
        check.due("undoable", x.about(12), 20);
    }
}
