/** Each sentence of the Terms, part 3, and of promises 19 to 27 that names a limit. */
public final class EdgeDuneTest {
    private static final Check check = new Check();
    private static final int MIN = Integer.MIN_VALUE;
    private static final int MAX = Integer.MAX_VALUE;

    public static void main(String[] args) {
        levelAtLeastSoHigh();
        levelsOfOneOrMore();
        joinedRoundTheEdges();
        notByCorners();
        numberedByFirstCells();
        mostDunes();
        largestField();
        duneWhats();
        duneOutside();
        duneColumnsAndRows();
        duneOfLimits();
        partsLimits();
        saddleLimits();
        saddleRoundTheEdge();
        crestLinesByCorners();
        crestLinesRoundTheEdge();
        longestCrestLine();
        noCrestLine();
        followsLimits();
        followsOfLikeOnes();
        fatesByTwoAtLeast();
        fatesLimits();
        shiftOfLikeOnes();
        shiftRoundTheEdges();
        shiftLimits();
        check.finish("EdgeDuneTest");
    }

    /** A field of slope 9 with heights as told, row by row. */
    private static SandMarch field(int columns, int... heights) {
        StringBuilder text = new StringBuilder("size " + columns + " by " + heights.length / columns + ";sand 0;slope 9;");
        int heaps = 0;
        SandMarch x;
        for (int cell = 0; cell < heights.length; cell++) {
            if (heights[cell] > 0 && heaps < 20) {
                text.append("heap ").append(cell % columns).append(' ').append(cell / columns).append(' ')
                        .append(heights[cell]).append(';');
                heaps++;
            }
        }
        x = Check.fieldOf(text.toString());
        for (int cell = 0; cell < heights.length; cell++) {
            if (x.cell(cell, 0) < heights[cell]) {
                x.put(cell, heights[cell] - x.cell(cell, 0));
            }
        }
        for (int cell = 0; cell < heights.length; cell++) {
            check.due("as told " + cell, x.cell(cell, 0), heights[cell]);
        }
        return x;
    }

    /** The heights become these; the acts are not asked about here. */
    private static void become(SandMarch x, int... heights) {
        for (int round = 0; round < 2; round++) {
            for (int cell = 0; cell < heights.length; cell++) {
                for (int i = 0; i < 9 && x.cell(cell, 0) > heights[cell]; i++) {
                    x.take(cell);
                }
                if (x.cell(cell, 0) < heights[cell]) {
                    x.put(cell, heights[cell] - x.cell(cell, 0));
                }
            }
        }
        for (int cell = 0; cell < heights.length; cell++) {
            check.due("became " + cell, x.cell(cell, 0), heights[cell]);
        }
    }

    /** "CELLS at least so high". */
    private static void levelAtLeastSoHigh() {
        SandMarch x = field(4, 0, 3, 0, 1);
        int[][] dunesOfLevel = {{1, 2}, {2, 1}, {3, 1}, {4, 0}, {5, 0}};
        for (int[] d : dunesOfLevel) {
            check.due("dunes(" + d[0] + ")", x.dunes(d[0]), d[1]);
        }
        int[][] duneOf = {{1, 1, 0}, {1, 3, 1}, {2, 1, 0}, {2, 3, -1}, {3, 1, 0}, {4, 1, -1}, {1, 0, -1}};
        for (int[] d : duneOf) {
            check.due("duneOf(" + d[0] + ", " + d[1] + ")", x.duneOf(d[0], d[1]), d[2]);
        }
    }

    /** "a LEVEL (1 or more) .. NONE for another one". */
    private static void levelsOfOneOrMore() {
        SandMarch x = field(4, 0, 3, 0, 1);
        for (int level : new int[] {0, -1, -2, MIN}) {
            check.due("dunes(" + level + ")", x.dunes(level), -1);
            check.due("dune(" + level + ", 0, 0)", x.dune(level, 0, 0), -1);
            check.due("duneOf(" + level + ", 1)", x.duneOf(level, 1), -1);
        }
        check.due("dunes(1)", x.dunes(1), 2);
        check.due("dunes(1000)", x.dunes(1000), 0);
        check.due("dunes(MAX)", x.dunes(MAX), 0);
        check.due("duneOf(MAX, 1)", x.duneOf(MAX, 1), -1);
        check.due("of bare ground", Check.fieldOf("sand 0;").dunes(1), 0);
        check.due("of a full field", Check.fieldOf("size 12 by 8;sand 9;").dunes(9), 1);
        check.due("one level above it", Check.fieldOf("size 12 by 8;sand 9;").dunes(10), 0);
    }

    private static void joinedRoundTheEdges() {
        check.due("the last column with the first", field(4, 1, 0, 0, 1).dunes(1), 1);
        check.due("one column between", field(5, 1, 0, 0, 1, 0).dunes(1), 2);
        check.due("the last row with the first", field(3, 0, 1, 0, 0, 0, 0, 0, 1, 0).dunes(1), 1);
        check.due("one row between", field(3, 0, 1, 0, 0, 0, 0, 0, 1, 0, 0, 0, 0).dunes(1), 2);
        check.due("two rows", field(3, 0, 1, 0, 0, 1, 0).dunes(1), 1);
        check.due("the end of a row is not beside the next row", field(4, 0, 0, 0, 1, 0, 0, 0, 0, 1, 0, 0, 0, 0, 0, 0, 0).dunes(1), 2);
    }

    /** "that hang together by NEIGHBOURS". */
    private static void notByCorners() {
        check.due("south-east", field(4, 1, 0, 0, 0, 0, 1, 0, 0, 0, 0, 0, 0).dunes(1), 2);
        check.due("south-west", field(4, 0, 1, 0, 0, 1, 0, 0, 0, 0, 0, 0, 0).dunes(1), 2);
        check.due("round both edges", field(4, 1, 0, 0, 0, 0, 0, 0, 0, 0, 0, 0, 1).dunes(1), 2);
        check.due("with the corner filled", field(4, 1, 1, 0, 0, 0, 1, 0, 0, 0, 0, 0, 0).dunes(1), 1);
    }

    /** "numbered by their first CELLS": cell 1's dune comes before cell 2's, though cell 2's is found from above. */
    private static void numberedByFirstCells() {
        SandMarch x = field(5,
                0, 1, 0, 2, 0,
                0, 0, 0, 0, 0,
                3, 0, 0, 0, 4,
                0, 0, 1, 0, 0);
        check.due("dunes", x.dunes(1), 4);
        int[] first = {1, 3, 10, 17};
        for (int dune = 0; dune < 4; dune++) {
            check.due("first of " + dune, x.dune(1, dune, 0), first[dune]);
        }
        check.due("the last column goes with the first", x.duneOf(1, 14), 2);
        int[] secondLevel = {3, 10};
        for (int dune = 0; dune < 2; dune++) {
            check.due("first at level 2", x.dune(2, dune, 0), secondLevel[dune]);
        }
        check.due("at level 4 it is 14", x.dune(4, 0, 0), 14);
    }

    /** The largest field: the last column and row at each question. */
    private static void largestField() {
        SandMarch x = Check.fieldOf("size 12 by 8;sand 0;slope 9;heap 11 7 5;heap 10 7 3;heap 5 3 4;");
        check.due("saddle(95, 41)", x.saddle(95, 41), 0);
        check.due("saddle(95, 94)", x.saddle(95, 94), 3);
        check.due("parts(2)", x.parts(2), 1);
        check.due("parts(3)", x.parts(3), -1);
        dueDune(x, 1, 1, 94, 2, 8, 5, 95, 2, 1);
        check.due("duneOf(1, 95)", x.duneOf(1, 95), 1);
        x.image(2);
        check.due("follows(2, 1, 1)", x.follows(2, 1, 1), 1);
        check.due("fates(2, 1, 2)", x.fates(2, 1, 2), 0);
        check.due("shift(2, 2)", x.shift(2, 2), 12);
        // by the east wind 3, 5 is a rise, so that its crest is the last cell
        check.due("cell(95, 4)", x.cell(95, 4), 1);
        check.due("crests(0)", x.crests(0), 2);
        check.due("crests(2)", x.crests(2), 41);
    }

    /** A chessboard of 12 by 8: 48 dunes, more than can be told in one text. */
    private static void mostDunes() {
        SandMarch x = Check.fieldOf("size 12 by 8;sand 0;");
        for (int cell = 0; cell < 96; cell++) {
            if ((cell % 12 + cell / 12) % 2 == 0) {
                x.put(cell, 1);
            }
        }
        check.due("48 dunes", x.dunes(1), 48);
        check.due("the last one", x.dune(1, 47, 0), 95);
        check.due("no 49th", x.dune(1, 48, 0), -1);
        check.due("48 parts", x.parts(48), 1);
        check.due("no 49 parts", x.parts(49), -1);
        check.due("one line by corners", x.crests(0), 1);
        check.due("all of them", x.crests(1), 48);
        x.image(0);
        check.due("the last follows itself", x.follows(0, 1, 47), 47);
        check.due("no 49th", x.follows(0, 1, 48), -1);
        check.due("none merged", x.fates(0, 1, 0), 0);
        check.due("overlap", x.shift(0, 2), 48);
    }

    private static void dueDune(SandMarch x, int level, int dune, int... want) {
        for (int what = 0; what < 7; what++) {
            check.due("dune(" + level + ", " + dune + ", " + what + ")", x.dune(level, dune, what), want[what]);
        }
    }

    private static void duneWhats() {
        SandMarch x = field(5,
                2, 0, 1, 1, 4,
                0, 0, 0, 5, 0,
                0, 3, 0, 5, 0);
        dueDune(x, 1, 0, 0, 6, 18, 5, 8, 4, 3);
        dueDune(x, 1, 1, 11, 1, 3, 3, 11, 1, 1);
        dueDune(x, 2, 0, 0, 2, 6, 4, 4, 2, 1);
        dueDune(x, 2, 1, 8, 2, 10, 5, 8, 1, 2);
        dueDune(x, 2, 2, 11, 1, 3, 3, 11, 1, 1);
        dueDune(x, 5, 0, 8, 2, 10, 5, 8, 1, 2);
        dueDune(x, 6, 0, -1, -1, -1, -1, -1, -1, -1);
        // one slab is the greatest height, and its first cell is not the field's first
        SandMarch low = field(5, 0, 0, 1, 1, 0);
        dueDune(low, 1, 0, 2, 2, 2, 1, 2, 2, 1);
    }

    /** "NONE if there is none such, or for another what." */
    private static void duneOutside() {
        SandMarch x = field(5, 2, 0, 1, 0, 0);
        for (int dune : new int[] {-1, 2, 3, MIN, MAX}) {
            dueDune(x, 1, dune, -1, -1, -1, -1, -1, -1, -1);
        }
        for (int what : new int[] {-1, 7, 8, MIN, MAX}) {
            check.due("dune(1, 0, " + what + ")", x.dune(1, 0, what), -1);
            check.due("dune(1, 1, " + what + ")", x.dune(1, 1, what), -1);
        }
        check.due("dune(1, 1, 6)", x.dune(1, 1, 6), 1);
        check.due("dune(2, 1, 0)", x.dune(2, 1, 0), -1);
    }

    private static void duneColumnsAndRows() {
        dueDune(Check.fieldOf("size 12 by 8;sand 2;"), 2, 0, 0, 96, 192, 2, 0, 12, 8);
        dueDune(Check.fieldOf("size 3 by 1;sand 1;"), 1, 0, 0, 3, 3, 1, 0, 3, 1);
        // a ring round the edge: columns 4 and 0
        dueDune(field(5, 1, 0, 0, 0, 1), 1, 0, 0, 2, 2, 1, 0, 2, 1);
    }

    /** "NONE if in none, or there are none such". */
    private static void duneOfLimits() {
        SandMarch x = field(5, 2, 0, 1, 0, 0);
        for (int cell : new int[] {-1, 5, 6, MIN, MAX}) {
            check.due("duneOf(1, " + cell + ")", x.duneOf(1, cell), -1);
        }
        int[] want = {0, -1, 1, -1, -1};
        for (int cell = 0; cell < 5; cell++) {
            check.due("duneOf(1, " + cell + ")", x.duneOf(1, cell), want[cell]);
        }
    }

    /** "The least LEVEL that has n (1 or more) DUNES at least; NONE if there is none, or for another n." */
    private static void partsLimits() {
        SandMarch x = field(8, 3, 5, 3, 6, 4, 8, 3, 3);
        int[] want = {-1, 1, 4, 5, -1};
        for (int n = 0; n < 5; n++) {
            check.due("parts(" + n + ")", x.parts(n), want[n]);
        }
        for (int n : new int[] {-1, MIN, 96, 97, MAX}) {
            check.due("parts(" + n + ")", x.parts(n), -1);
        }
        // at least: at 1 three, at no level just two
        SandMarch y = field(6, 1, 0, 1, 0, 1, 0);
        check.due("two at least", y.parts(2), 1);
        check.due("three", y.parts(3), 1);
        check.due("four", y.parts(4), -1);
        check.due("of bare ground", Check.fieldOf("sand 0;").parts(1), -1);
        check.due("of flat sand", Check.fieldOf("sand 9;").parts(1), 1);
        check.due("of flat sand two", Check.fieldOf("sand 9;").parts(2), -1);
        // the top level of all: 9 and 9, with 8 between
        check.due("at the top", field(5, 8, 9, 8, 9, 8).parts(2), 9);
        // cell 0 alone joins them
        check.due("parted by the first cell", field(5, 2, 3, 0, 0, 3).parts(2), 3);
        check.due("parted by the last cell", field(5, 3, 0, 0, 3, 2).parts(2), 3);
        // more at a low level, then fewer, then more
        SandMarch z = field(9, 1, 0, 1, 0, 3, 2, 3, 2, 3);
        check.due("at level 1", z.parts(2), 1);
        check.due("at level 3", z.parts(3), 3);
    }

    /** "the greatest LEVEL by which both are of one DUNE"; "(of one CELL with itself: its HEIGHT); 0 if by none". */
    private static void saddleLimits() {
        SandMarch x = field(8, 0, 5, 3, 6, 4, 8, 0, 2);
        int[][] want = {{1, 3, 3}, {3, 1, 3}, {3, 5, 4}, {1, 5, 3}, {1, 2, 3}, {2, 5, 3}, {4, 5, 4}, {1, 7, 0}, {0, 1, 0}, {0, 6, 0},
            {0, 0, 0}, {7, 7, 2}, {5, 5, 8}};
        for (int[] w : want) {
            check.due("saddle(" + w[0] + ", " + w[1] + ")", x.saddle(w[0], w[1]), w[2]);
        }
        for (int cell : new int[] {-1, 8, 9, MIN, MAX}) {
            check.due("saddle(" + cell + ", 0)", x.saddle(cell, 0), -1);
            check.due("saddle(0, " + cell + ")", x.saddle(0, cell), -1);
            check.due("saddle(" + cell + ", " + cell + ")", x.saddle(cell, cell), -1);
        }
        check.due("saddle(7, 7)", x.saddle(7, 7), 2);
        check.due("of flat sand", Check.fieldOf("size 12 by 8;sand 9;").saddle(0, 95), 9);
    }

    /** The higher of two ways round counts. */
    private static void saddleRoundTheEdge() {
        check.due("the way through the edge", field(6, 5, 1, 5, 3, 3, 4).saddle(0, 2), 3);
        check.due("the way within", field(6, 5, 4, 5, 3, 3, 4).saddle(0, 2), 4);
        check.due("the first cell between", field(5, 2, 3, 0, 0, 3).saddle(1, 4), 2);
        check.due("the last cell between", field(5, 3, 0, 0, 3, 2).saddle(0, 3), 2);
        check.due("by rows", field(3, 5, 0, 0, 1, 0, 0, 5, 0, 0).saddle(0, 6), 5);
        check.due("not by corners", field(4, 5, 1, 0, 0, 2, 5, 0, 0, 0, 0, 0, 0).saddle(0, 5), 2);
    }

    private static void dueCrests(SandMarch x, int lines, int longest, int first) {
        check.due("crests(0)", x.crests(0), lines);
        check.due("crests(1)", x.crests(1), longest);
        check.due("crests(2)", x.crests(2), first);
    }

    /** "CRESTS that hang together by sides or corners". */
    private static void crestLinesByCorners() {
        dueCrests(field(6,
                0, 2, 0, 0, 0, 0,
                0, 0, 2, 0, 0, 0,
                0, 0, 0, 0, 0, 0,
                0, 0, 0, 0, 0, 0), 1, 2, 1);
        dueCrests(field(6,
                0, 0, 2, 0, 0, 0,
                0, 2, 0, 0, 0, 0,
                0, 0, 0, 0, 0, 0,
                0, 0, 0, 0, 0, 0), 1, 2, 2);
        dueCrests(field(6,
                0, 2, 0, 0, 0, 0,
                0, 2, 0, 0, 0, 0,
                0, 2, 0, 0, 0, 0,
                0, 0, 0, 0, 0, 0), 1, 3, 1);
        dueCrests(field(6,
                0, 2, 0, 0, 0, 0,
                0, 0, 0, 0, 0, 0,
                0, 2, 0, 0, 0, 0,
                0, 0, 0, 0, 0, 0), 2, 1, 1);
        dueCrests(field(6,
                0, 2, 0, 0, 0, 0,
                0, 0, 0, 2, 0, 0,
                0, 0, 0, 0, 0, 0,
                0, 0, 0, 0, 0, 0), 2, 1, 1);
    }

    private static void crestLinesRoundTheEdge() {
        // corners round both edges: the last cell of the last row with the first of the first
        dueCrests(field(5,
                2, 0, 0, 0, 0,
                0, 0, 0, 0, 0,
                0, 0, 0, 0, 0,
                0, 0, 0, 0, 2), 1, 2, 0);
        dueCrests(field(5,
                0, 0, 0, 0, 2,
                0, 0, 0, 0, 0,
                0, 0, 0, 0, 0,
                2, 0, 0, 0, 0), 1, 2, 4);
        dueCrests(field(5,
                0, 0, 2, 0, 0,
                0, 0, 0, 0, 0,
                0, 0, 0, 0, 0,
                0, 0, 2, 0, 0), 1, 2, 2);
        dueCrests(field(5,
                0, 0, 0, 0, 2,
                2, 0, 0, 0, 0,
                0, 0, 0, 0, 0,
                0, 0, 0, 0, 0), 1, 2, 4);
        // with one row corners are sides
        dueCrests(field(6, 2, 0, 0, 2, 0, 0), 2, 1, 0);
    }

    /** "the longest .. of like ones the first line". */
    private static void longestCrestLine() {
        dueCrests(field(7,
                0, 2, 0, 0, 2, 0, 0,
                0, 0, 0, 0, 2, 0, 0,
                0, 0, 0, 0, 0, 0, 0,
                0, 0, 0, 0, 0, 0, 0), 2, 2, 4);
        dueCrests(field(7,
                0, 2, 0, 0, 2, 0, 0,
                0, 2, 0, 0, 2, 0, 0,
                0, 0, 0, 0, 0, 0, 0,
                0, 0, 0, 0, 0, 0, 0), 2, 2, 1);
        dueCrests(field(7,
                0, 2, 0, 0, 2, 0, 0,
                0, 2, 0, 0, 2, 0, 0,
                0, 0, 0, 0, 0, 2, 0,
                0, 0, 0, 0, 0, 0, 0), 2, 3, 4);
    }

    /** "(2; .. NONE: there is none). NONE for another what." */
    private static void noCrestLine() {
        dueCrests(Check.fieldOf("sand 0;"), 0, 0, -1);
        dueCrests(Check.fieldOf("sand 9;"), 0, 0, -1);
        dueCrests(Check.fieldOf("size 12 by 8;"), 0, 0, -1);
        SandMarch x = field(5, 2, 0, 0, 0, 0);
        for (int what : new int[] {-1, 3, 4, MIN, MAX}) {
            check.due("crests(" + what + ")", x.crests(what), -1);
        }
        dueCrests(x, 1, 1, 0);
    }

    /** "NONE if it has no CELL in common with any, or there are none such." */
    private static void followsLimits() {
        SandMarch x = field(6, 1, 0, 2, 0, 1, 0);
        for (int box = 0; box < 3; box++) {
            check.due("nothing kept in " + box, x.follows(box, 1, 0), -1);
        }
        x.image(0);
        x.image(2);
        become(x, 0, 0, 2, 0, 1, 1);
        for (int box : new int[] {0, 2}) {
            check.due("of box " + box, x.follows(box, 1, 0), 1);
            check.due("of box " + box, x.follows(box, 1, 1), 2);
            check.due("of box " + box + " at level 2", x.follows(box, 2, 0), 0);
        }
        for (int box : new int[] {-1, 1, 3, 4, MIN, MAX}) {
            check.due("follows(" + box + ", 1, 0)", x.follows(box, 1, 0), -1);
        }
        for (int level : new int[] {0, -1, MIN, 3, MAX}) {
            check.due("follows(0, " + level + ", 0)", x.follows(0, level, 0), -1);
        }
        for (int dune : new int[] {-1, 2, 3, MIN, MAX}) {
            check.due("follows(0, 1, " + dune + ")", x.follows(0, 1, dune), -1);
        }
        become(x, 0, 1, 0, 0, 0, 1);
        check.due("none in common", x.follows(0, 1, 0), -1);
        check.due("none in common", x.follows(0, 1, 1), -1);
    }

    /** "with which it has most CELLS in common (of like ones the first)". */
    private static void followsOfLikeOnes() {
        SandMarch x = field(9, 1, 0, 1, 1, 0, 1, 1, 1, 0);
        x.image(0);
        become(x, 1, 1, 1, 0, 0, 0, 0, 0, 0);
        check.due("one and one: the first", x.follows(0, 1, 0), 0);
        become(x, 1, 1, 1, 1, 0, 0, 0, 0, 0);
        check.due("one and two", x.follows(0, 1, 0), 1);
        become(x, 0, 0, 1, 1, 1, 1, 1, 0, 0);
        check.due("two and two: the first", x.follows(0, 1, 0), 1);
        become(x, 0, 0, 1, 1, 1, 1, 1, 1, 0);
        check.due("two and three", x.follows(0, 1, 0), 2);
        become(x, 0, 0, 0, 0, 1, 1, 0, 0, 1);
        check.due("one", x.follows(0, 1, 0), 2);
        check.due("none", x.follows(0, 1, 1), -1);
    }

    private static void dueFates(SandMarch x, int level, int merged, int apart, int gone, int fresh) {
        int[] want = {merged, apart, gone, fresh};
        for (int what = 0; what < 4; what++) {
            check.due("fates(0, " + level + ", " + what + ")", x.fates(0, level, what), want[what]);
        }
    }

    /** "with two DUNES of a BOX at least": one is too few, three are enough, and count once. */
    private static void fatesByTwoAtLeast() {
        SandMarch x = field(10, 1, 0, 1, 0, 1, 0, 1, 0, 0, 0);
        x.image(0);
        dueFates(x, 1, 0, 0, 0, 0);
        become(x, 1, 1, 0, 0, 1, 0, 1, 0, 0, 0);
        dueFates(x, 1, 0, 0, 1, 0);
        become(x, 1, 1, 1, 0, 1, 0, 1, 0, 0, 0);
        dueFates(x, 1, 1, 0, 0, 0);
        become(x, 1, 1, 1, 1, 1, 0, 1, 0, 0, 0);
        dueFates(x, 1, 1, 0, 0, 0);
        become(x, 1, 1, 1, 0, 1, 1, 1, 0, 1, 0);
        dueFates(x, 1, 2, 0, 0, 1);
        become(x, 0, 0, 0, 0, 0, 0, 0, 0, 1, 0);
        dueFates(x, 1, 0, 0, 4, 1);
        become(x, 0, 0, 0, 0, 0, 0, 0, 0, 0, 0);
        dueFates(x, 1, 0, 0, 4, 0);
        SandMarch y = field(10, 1, 1, 1, 1, 1, 0, 1, 1, 1, 0);
        y.image(0);
        become(y, 1, 0, 0, 0, 0, 0, 1, 1, 1, 0);
        dueFates(y, 1, 0, 0, 0, 0);
        become(y, 1, 0, 1, 0, 0, 0, 1, 1, 1, 0);
        dueFates(y, 1, 0, 1, 0, 0);
        become(y, 1, 0, 1, 0, 1, 0, 1, 1, 1, 0);
        dueFates(y, 1, 0, 1, 0, 0);
        become(y, 1, 0, 1, 0, 1, 0, 1, 0, 1, 0);
        dueFates(y, 1, 0, 2, 0, 0);
        become(y, 1, 0, 1, 1, 1, 1, 1, 0, 0, 0);
        dueFates(y, 1, 1, 1, 0, 0);
        become(y, 2, 0, 2, 0, 0, 0, 0, 0, 0, 0);
        dueFates(y, 2, 0, 0, 0, 2);
    }

    /** "NONE if nothing was kept there, for another LEVEL, what." */
    private static void fatesLimits() {
        SandMarch x = field(6, 1, 0, 2, 0, 1, 0);
        x.image(1);
        for (int what = 0; what < 4; what++) {
            for (int box : new int[] {-1, 0, 2, 3, MIN, MAX}) {
                check.due("fates(" + box + ", 1, " + what + ")", x.fates(box, 1, what), -1);
            }
            for (int level : new int[] {0, -1, MIN}) {
                check.due("fates(1, " + level + ", " + what + ")", x.fates(1, level, what), -1);
            }
            for (int level : new int[] {1, 2, 3, MAX}) {
                check.due("fates(1, " + level + ", " + what + ")", x.fates(1, level, what), 0);
            }
        }
        for (int what : new int[] {-1, 4, 5, MIN, MAX}) {
            check.due("fates(1, 1, " + what + ")", x.fates(1, 1, what), -1);
        }
        // a level that only the box has, and one that only now has
        become(x, 1, 0, 0, 0, 3, 0);
        int[] gone = {0, 0, 1, 0};
        int[] fresh = {0, 0, 0, 1};
        SandMarch y = field(6, 1, 0, 2, 0, 1, 0);
        y.image(1);
        become(y, 1, 0, 1, 0, 1, 0);
        for (int what = 0; what < 4; what++) {
            check.due("only in the box: " + what, y.fates(1, 2, what), gone[what]);
            check.due("only now: " + what, x.fates(1, 3, what), fresh[what]);
        }
    }

    private static void dueShift(SandMarch x, int columns, int rows, int overlap) {
        check.due("shift(0, 0)", x.shift(0, 0), columns);
        check.due("shift(0, 1)", x.shift(0, 1), rows);
        check.due("shift(0, 2)", x.shift(0, 2), overlap);
    }

    /** "of like ones the fewest rows, then columns". */
    private static void shiftOfLikeOnes() {
        SandMarch x = field(4,
                2, 0, 0, 0,
                0, 0, 0, 0,
                0, 0, 0, 0);
        x.image(0);
        dueShift(x, 0, 0, 2);
        // one row and no column, or no row and three columns
        become(x, 0, 0, 0, 2, 2, 0, 0, 0, 0, 0, 0, 0);
        dueShift(x, 3, 0, 2);
        // one row: one column or two
        become(x, 0, 0, 0, 0, 0, 2, 2, 0, 0, 0, 0, 0);
        dueShift(x, 1, 1, 2);
        // one row and three columns, or two rows and no column
        become(x, 0, 0, 0, 0, 0, 0, 0, 2, 2, 0, 0, 0);
        dueShift(x, 3, 1, 2);
        // more of it counts first
        become(x, 1, 0, 0, 1, 1, 0, 0, 0, 0, 0, 2, 0);
        dueShift(x, 2, 2, 2);
        become(x, 1, 0, 0, 1, 1, 0, 0, 0, 0, 0, 1, 0);
        dueShift(x, 0, 0, 1);
        become(x, 0, 0, 0, 0, 0, 0, 0, 0, 0, 0, 0, 0);
        dueShift(x, 0, 0, 0);
        SandMarch flat = Check.fieldOf("size 12 by 8;sand 3;");
        flat.image(0);
        dueShift(flat, 0, 0, 288);
    }

    /** The BOX's HEIGHTS are moved east and south, round the edges. */
    private static void shiftRoundTheEdges() {
        int[] then = {3, 1, 0, 0, 2, 0, 0, 0, 0, 0, 0, 0, 0, 0, 0};
        for (int south = 0; south < 3; south++) {
            for (int east = 0; east < 5; east++) {
                SandMarch x = field(5, then);
                x.image(0);
                int[] moved = new int[15];
                for (int cell = 0; cell < 15; cell++) {
                    moved[(cell / 5 + south) % 3 * 5 + (cell % 5 + east) % 5] = then[cell];
                }
                become(x, moved);
                dueShift(x, east, south, 6);
            }
        }
        // the lesser of both heights: 3 against 5, 2 against 1
        SandMarch x = field(5, 3, 0, 2, 0, 0);
        x.image(0);
        become(x, 0, 5, 0, 1, 0);
        dueShift(x, 1, 0, 4);
    }

    /** "NONE if nothing was kept there, or for another what." */
    private static void shiftLimits() {
        SandMarch x = field(5, 3, 0, 2, 0, 0);
        x.image(1);
        for (int what = 0; what < 3; what++) {
            for (int box : new int[] {-1, 0, 2, 3, MIN, MAX}) {
                check.due("shift(" + box + ", " + what + ")", x.shift(box, what), -1);
            }
            check.due("shift(1, " + what + ")", x.shift(1, what), what == 2 ? 5 : 0);
        }
        for (int what : new int[] {-1, 3, 4, MIN, MAX}) {
            check.due("shift(1, " + what + ")", x.shift(1, what), -1);
        }
        x.image(0);
        x.image(2);
        check.due("shift(0, 2)", x.shift(0, 2), 5);
        check.due("shift(2, 2)", x.shift(2, 2), 5);
    }
}
