/** Each sentence of the Terms, part 2, up to SHADOW and BARE, and of promises 6 to 8, 16, 17 that names a limit. */
public final class EdgeCellTest {
    private static final Check check = new Check();
    private static final int MIN = Integer.MIN_VALUE;
    private static final int MAX = Integer.MAX_VALUE;
    private static final String[] WAYS = {"east", "south", "west", "north"};

    public static void main(String[] args) {
        besideOnEverySize();
        besideOutside();
        oneRow();
        windByTries();
        windLimits();
        shadowByHowMuchHigher();
        shadowUpToTheWholeRound();
        shadowOfRows();
        shadowInOneRow();
        shadowAgainstTheWind();
        bareOrNot();
        steepness();
        crestLimits();
        crestsRoundTheEdge();
        crestsOfOneRow();
        cellOutside();
        allLimits();
        allOfOneAndTwoRows();
        skylineLimits();
        check.finish("EdgeCellTest");
    }

    /** "the last column is beside the first one, the last row beside the first one". */
    private static void besideOnEverySize() {
        for (int columns = 3; columns <= 12; columns++) {
            for (int rows = 1; rows <= 8; rows++) {
                SandMarch x = Check.fieldOf("size " + columns + " by " + rows + ";");
                for (int cell = 0; cell < columns * rows; cell++) {
                    int column = cell % columns;
                    int row = cell / columns;
                    String call = columns + " by " + rows + " beside(" + cell;
                    check.due(call + ", 0)", x.beside(cell, 0), row * columns + (column + 1) % columns);
                    check.due(call + ", 1)", x.beside(cell, 1), (row + 1) % rows * columns + column);
                    check.due(call + ", 2)", x.beside(cell, 2), row * columns + (column + columns - 1) % columns);
                    check.due(call + ", 3)", x.beside(cell, 3), (row + rows - 1) % rows * columns + column);
                }
            }
        }
    }

    private static void besideOutside() {
        for (String size : new String[] {"size 3 by 1;", "size 12 by 8;", ""}) {
            SandMarch x = Check.fieldOf(size);
            int cells = x.about(2);
            for (int cell : new int[] {-1, cells, cells + 1, MIN, MAX}) {
                for (int way = 0; way < 4; way++) {
                    check.due("beside(" + cell + ", " + way + ")", x.beside(cell, way), -1);
                }
            }
            for (int way : new int[] {-1, 4, 5, MIN, MAX}) {
                check.due("beside(0, " + way + ")", x.beside(0, way), -1);
                check.due("beside(last, " + way + ")", x.beside(cells - 1, way), -1);
            }
            check.due("beside(last, 0)", x.beside(cells - 1, 0), cells - x.about(0));
            check.due("beside(last, 3)", x.beside(cells - 1, 3), cells - 1 - (x.about(1) > 1 ? x.about(0) : 0));
        }
    }

    /** "with one row a CELL is its own one to the south and north". */
    private static void oneRow() {
        SandMarch x = Check.fieldOf("size 3 by 1;sand 1;slope 9;heap 1 0 5;");
        for (int cell = 0; cell < 3; cell++) {
            check.due("to the south", x.beside(cell, 1), cell);
            check.due("to the north", x.beside(cell, 3), cell);
        }
        check.due("no steeper than to the east", x.cell(1, 3), 5);
        check.due("no difference to the south", x.all(5), 10);
        // a slab that is carried south comes down where it was taken
        for (String way : new String[] {"south", "north"}) {
            SandMarch y = Check.fieldOf("size 3 by 1;sand 1;slope 9;heap 1 0 5;wind " + way + " 1;stick 16 16;");
            check.due("all tries are none of them idle", y.blow(9), 9);
            check.dueHeights("as before", y, "1 6 1");
        }
        SandMarch two = Check.fieldOf("size 3 by 2;");
        check.due("two rows: the other one", two.beside(0, 1), 3);
        check.due("two rows: the other one", two.beside(0, 3), 3);
    }

    /** "The WIND of a try .. by how many TRIES there were"; "one behind the other, round and round". */
    private static void windByTries() {
        SandMarch x = Check.fieldOf("wind south 1 west 2 north 3 east 1;");
        int[] round = {1, 2, 2, 3, 3, 3, 0};
        for (int tries = 0; tries < 16; tries++) {
            for (int n = 0; n < 16; n++) {
                check.due("behind " + tries + " wind(" + n + ")", x.wind(n), round[(tries + n) % 7]);
            }
            x.blow(1);
        }
        x.undo();
        check.due("one undone", x.wind(0), round[15 % 7]);
        SandMarch y = Check.fieldOf("wind south 1 west 2 north 3 east 1;");
        y.blow(500);
        check.due("behind 500", y.wind(0), round[500 % 7]);
        check.due("behind 500, the 9,999th", y.wind(9999), round[10499 % 7]);
        y.put(0, 3);
        check.due("no try, no turn", y.wind(0), round[500 % 7]);
    }

    /** "NONE if n is below 0 or above 9,999". */
    private static void windLimits() {
        SandMarch x = Check.fieldOf("wind south 99 north 1;");
        int[][] want = {{-2, -1}, {-1, -1}, {0, 1}, {1, 1}, {98, 1}, {99, 3}, {100, 1}, {199, 3}, {9998, 1}, {9999, 3},
            {10000, -1}, {10001, -1}, {MIN, -1}, {MAX, -1}};
        for (int[] w : want) {
            check.due("wind(" + w[0] + ")", x.wind(w[0]), w[1]);
        }
    }

    private static String shadows(SandMarch x) {
        StringBuilder got = new StringBuilder();
        for (int cell = 0; cell < x.about(2); cell++) {
            got.append(x.cell(cell, 1));
        }
        return got.toString();
    }

    private static void dueShadows(String text, String want) {
        String got = shadows(Check.fieldOf(text));
        check.due("[" + text + "] shadows " + got + ", due are " + want, got.equals(want), true);
    }

    /** "higher than it by k times shadow or more": one slab less is no shadow. */
    private static void shadowByHowMuchHigher() {
        for (int shadow = 1; shadow <= 9; shadow++) {
            for (int k = 1; k * shadow <= 9 && k < 9; k++) {
                String told = "size 10 by 1;slope 9;sand 2;shadow " + shadow + ";heap 0 0 ";
                SandMarch at = Check.fieldOf(told + k * shadow + ";");
                check.due(told + k * shadow + " on " + k, at.cell(k, 1), 1);
                check.due("not on the next one", at.cell(k + 1, 1), 0);
                if (k * shadow > 1) {
                    SandMarch below = Check.fieldOf(told + (k * shadow - 1) + ";");
                    check.due(told + (k * shadow - 1) + " on " + k, below.cell(k, 1), 0);
                }
                if (k * shadow < 9) {
                    SandMarch above = Check.fieldOf(told + (k * shadow + 1) + ";");
                    check.due(told + (k * shadow + 1) + " on " + k, above.cell(k, 1), 1);
                }
            }
        }
    }

    /** "k (1 up to one less than there are CELLS in a round that way)". */
    private static void shadowUpToTheWholeRound() {
        for (int columns = 3; columns <= 10; columns++) {
            String told = "size " + columns + " by 2;slope 9;sand 0;shadow 1;heap 0 0 ";
            int last = columns - 1;
            check.due(columns + " columns: all but itself", Check.fieldOf(told + last + ";").cell(last, 1), 1);
            check.due("one slab less", Check.fieldOf(told + (last - 1) + ";").cell(last, 1), 0);
            check.due("none on itself", Check.fieldOf(told + last + ";").cell(0, 1), 0);
            check.due("none on the other row", Check.fieldOf(told + last + ";").cell(columns + 1, 1), 0);
            // by the west wind, the cell next to the east is the last one
            String west = "wind west 1;" + told.replace("size " + columns + " by 2;", "");
            String size = "size " + columns + " by 2;";
            check.due("by the west wind", Check.fieldOf(size + west + last + ";").cell(1, 1), 1);
            check.due("one slab less", Check.fieldOf(size + west + (last - 1) + ";").cell(1, 1), 0);
        }
        dueShadows("size 3 by 1;sand 1;slope 9;shadow 4;heap 1 0 8;", "101");
        dueShadows("size 3 by 1;sand 1;slope 9;shadow 4;heap 1 0 7;", "001");
        // higher ones, with a ramp so that they stay: 13 shades 10 of the 11 others
        dueShadows("size 12 by 1;sand 0;slope 9;shadow 1;heap 0 0 13;heap 1 0 4;heap 11 0 4;", "011111111110");
    }

    private static void shadowOfRows() {
        for (int rows = 2; rows <= 8; rows++) {
            String told = "size 3 by " + rows + ";slope 9;sand 0;shadow 1;wind south 1;heap 1 0 ";
            int last = rows - 1;
            SandMarch at = Check.fieldOf(told + last + ";");
            check.due(rows + " rows: all but itself", at.cell(last * 3 + 1, 1), 1);
            check.due("none on itself", at.cell(1, 1), 0);
            check.due("none in the next column", at.cell(5, 1), 0);
            if (last > 1) {
                check.due("one slab less", Check.fieldOf(told + (last - 1) + ";").cell(last * 3 + 1, 1), 0);
            }
            String north = told.replace("south", "north");
            check.due("by the north wind", Check.fieldOf(north + last + ";").cell(4, 1), 1);
            if (last > 1) {
                check.due("one slab less", Check.fieldOf(north + (last - 1) + ";").cell(4, 1), 0);
            }
        }
    }

    private static void shadowInOneRow() {
        for (String way : new String[] {"south", "north"}) {
            dueShadows("size 4 by 1;sand 0;slope 9;shadow 1;heap 0 0 9;wind " + way + " 1;", "0000");
        }
        dueShadows("size 4 by 1;sand 0;slope 9;shadow 1;heap 0 0 9;wind west 1;", "0111");
        dueShadows("size 4 by 1;sand 0;slope 9;shadow 1;heap 0 0 9;wind east 1;", "0111");
    }

    /** The shadow lies on the side to which the wind blows, and turns with it. */
    private static void shadowAgainstTheWind() {
        int[] lee = {13, 17, 11, 7};
        for (int way = 0; way < 4; way++) {
            SandMarch x = Check.fieldOf("size 5 by 5;sand 1;slope 9;shadow 3;heap 2 2 5;wind " + WAYS[way] + " 1;");
            for (int cell = 0; cell < 25; cell++) {
                check.due(WAYS[way] + " on " + cell, x.cell(cell, 1), cell == lee[way] ? 1 : 0);
            }
            check.due("one in all", x.all(3), 1);
        }
        SandMarch turning = Check.fieldOf("size 5 by 5;sand 1;slope 9;shadow 3;heap 2 2 5;wind east 1 south 1 west 1 north 1;"
                + "draw " + Draws.seedFor(25, 13) + ";");
        check.due("east", turning.cell(13, 1), 1);
        check.due("an idle try", turning.blow(1), 0);
        check.due("south: no more on 13", turning.cell(13, 1), 0);
        check.due("south", turning.cell(17, 1), 1);
    }

    /** "BARE: of HEIGHT 0". */
    private static void bareOrNot() {
        SandMarch x = Check.fieldOf("size 4 by 1;sand 0;heap 1 0 1;heap 2 0 2;");
        check.due("two bare", x.all(2), 2);
        check.due("take of 2", x.take(2), 1);
        check.due("two bare", x.all(2), 2);
        check.due("take of 1", x.take(2), 0);
        check.due("three bare", x.all(2), 3);
        check.due("take of 0", x.take(2), -1);
        check.due("all of 96", Check.fieldOf("size 12 by 8;sand 0;").all(2), 96);
        check.due("none of 96", Check.fieldOf("size 12 by 8;sand 1;").all(2), 0);
    }

    /** "how much higher it is than its lowest NEIGHBOUR (0, if none is lower)". */
    private static void steepness() {
        String ahead = "size 3 by 3;sand 2;slope 9;";
        int[][] sides = {{2, 1}, {1, 2}, {0, 1}, {1, 0}};
        for (int i = 0; i < 4; i++) {
            SandMarch x = Check.fieldOf(ahead + "heap 1 1 1;heap " + sides[i][0] + " " + sides[i][1] + " 4;");
            check.due("the lowest, not that one", x.cell(4, 3), 1);
            // all but one side are as high as the cell
            StringBuilder text = new StringBuilder(ahead + "heap 1 1 5;");
            for (int j = 0; j < 4; j++) {
                text.append("heap ").append(sides[j][0]).append(' ').append(sides[j][1]).append(j == i ? " 2;" : " 5;");
            }
            check.due("that one alone is lower", Check.fieldOf(text.toString()).cell(4, 3), 3);
        }
        check.due("none is lower", Check.fieldOf(ahead).cell(4, 3), 0);
        check.due("all are higher", Check.fieldOf(ahead + "heap 0 1 1;heap 2 1 1;heap 1 0 1;heap 1 2 1;").cell(4, 3), 0);
        check.due("round the edge", Check.fieldOf("size 3 by 1;sand 9;slope 9;heap 0 0 3;heap 1 0 3;").cell(0, 3), 3);
    }

    private static int crestOf(int against, int own, int with) {
        return Check.fieldOf("size 5 by 1;slope 9;sand 0;" + heap(1, against) + heap(2, own) + heap(3, with)).cell(2, 4);
    }

    private static String heap(int column, int slabs) {
        return slabs == 0 ? "" : "heap " + column + " 0 " + slabs + ";";
    }

    /** "not BARE, not lower than the one next to it against the WIND, higher than the one with it". */
    private static void crestLimits() {
        for (int against = 0; against < 5; against++) {
            for (int own = 0; own < 5; own++) {
                for (int with = 0; with < 5; with++) {
                    int want = own > 0 && own >= against && own > with ? 1 : 0;
                    check.due("crest of " + against + " " + own + " " + with, crestOf(against, own, with), want);
                }
            }
        }
    }

    private static void crestsRoundTheEdge() {
        int[][] firstAndLast = {{1, 0}, {0, 1}};
        for (int[] f : firstAndLast) {
            SandMarch x = Check.fieldOf("size 3 by 1;slope 9;sand 1;" + heap(0, f[0]) + heap(2, f[1]));
            check.due("the first", x.cell(0, 4), f[0]);
            check.due("the last", x.cell(2, 4), f[1]);
        }
        // the last is as high as the first: the wind comes round the edge
        SandMarch both = Check.fieldOf("size 3 by 1;slope 9;sand 1;heap 0 0 1;heap 2 0 1;");
        check.due("the first is higher than the second", both.cell(0, 4), 1);
        check.due("the last is not higher than the first", both.cell(2, 4), 0);
        SandMarch north = Check.fieldOf("size 3 by 3;slope 9;sand 1;heap 1 0 2;wind north 1;");
        check.due("by the north wind", north.cell(1, 4), 1);
        SandMarch higher = Check.fieldOf("size 3 by 3;slope 9;sand 1;heap 1 0 2;heap 1 1 3;wind north 1;");
        check.due("the one against it is higher", higher.cell(1, 4), 0);
        check.due("that one is no lower than its own", higher.cell(4, 4), 1);
    }

    private static void crestsOfOneRow() {
        for (String way : new String[] {"south", "north"}) {
            SandMarch x = Check.fieldOf("size 3 by 1;slope 9;sand 1;heap 1 0 5;wind " + way + " 1;");
            for (int cell = 0; cell < 3; cell++) {
                check.due("not higher than itself", x.cell(cell, 4), 0);
            }
            check.due("no line", x.crests(0), 0);
            check.due("no crest", x.crests(1), 0);
            check.due("no cell", x.crests(2), -1);
        }
    }

    /** "NONE if there is none such, or for another what." */
    private static void cellOutside() {
        for (String size : new String[] {"size 3 by 1;", "size 12 by 8;", ""}) {
            SandMarch x = Check.fieldOf(size);
            int cells = x.about(2);
            for (int what = 0; what < 5; what++) {
                for (int cell : new int[] {-1, cells, cells + 1, MIN, MAX}) {
                    check.due("cell(" + cell + ", " + what + ")", x.cell(cell, what), -1);
                }
                check.due("cell(0, " + what + ")", x.cell(0, what), what == 0 ? 3 : 0);
                check.due("cell(last, " + what + ")", x.cell(cells - 1, what), what == 0 ? 3 : 0);
            }
            for (int what : new int[] {-1, 5, 6, MIN, MAX}) {
                check.due("cell(0, " + what + ")", x.cell(0, what), -1);
                check.due("cell(last, " + what + ")", x.cell(cells - 1, what), -1);
            }
        }
    }

    private static void dueAll(String text, int... want) {
        SandMarch x = Check.fieldOf(text);
        for (int what = 0; what < 7; what++) {
            check.due("[" + text + "] all(" + what + ")", x.all(what), want[what]);
        }
        for (int what : new int[] {-1, 7, 8, MIN, MAX}) {
            check.due("all(" + what + ")", x.all(what), -1);
        }
    }

    private static void allLimits() {
        dueAll("size 3 by 3;sand 0;", 0, 0, 9, 0, 0, 0, 0);
        dueAll("size 3 by 3;sand 1;", 9, 1, 0, 0, 0, 0, 9);
        dueAll("size 3 by 3;sand 1;grass 1 1;", 9, 1, 0, 0, 0, 0, 8);
        dueAll("size 3 by 3;sand 1;heap 1 1 2;", 11, 3, 0, 1, 2, 8, 8);
        dueAll("size 3 by 3;sand 1;heap 1 1 2;grass 2 1;", 11, 3, 0, 1, 2, 8, 8);
        dueAll("size 3 by 3;sand 1;heap 1 1 2;grass 0 1;", 11, 3, 0, 1, 2, 8, 7);
        dueAll("size 3 by 3;sand 0;heap 1 1 2;", 2, 2, 8, 1, 2, 8, 1);
        dueAll("size 3 by 3;sand 0;heap 1 1 2;grass 1 1;", 2, 2, 8, 1, 2, 8, 0);
        dueAll("size 12 by 8;sand 9;", 864, 9, 0, 0, 0, 0, 96);
        // shadow on the first cell, on the last one; the steepest at the first, at the last
        dueAll("size 3 by 3;sand 1;heap 2 0 2;", 11, 3, 0, 1, 2, 8, 8);
        dueAll("size 3 by 3;sand 1;heap 1 2 2;", 11, 3, 0, 1, 2, 8, 8);
        dueAll("size 3 by 3;sand 1;heap 0 0 2;", 11, 3, 0, 1, 2, 8, 8);
        dueAll("size 3 by 3;sand 1;heap 2 2 2;", 11, 3, 0, 1, 2, 8, 8);
        dueAll("size 3 by 3;sand 1;grass 0 0;grass 2 2;", 9, 1, 0, 0, 0, 0, 7);
    }

    /** Differences "to the east and to the south together": each CELL counts both, round the edge, too. */
    private static void allOfOneAndTwoRows() {
        dueAll("size 3 by 1;sand 1;heap 2 0 2;shadow 9;", 5, 3, 0, 0, 2, 4, 3);
        dueAll("size 3 by 2;sand 1;heap 2 0 2;shadow 9;", 8, 3, 0, 0, 2, 8, 6);
        dueAll("size 3 by 3;sand 1;heap 0 0 1;shadow 9;", 10, 2, 0, 0, 1, 4, 9);
        dueAll("size 3 by 3;sand 1;heap 2 2 1;shadow 9;", 10, 2, 0, 0, 1, 4, 9);
    }

    /** "The greatest HEIGHT of a column (what 0), of a row (1); NONE if there is none such, or for another what." */
    private static void skylineLimits() {
        for (int[] size : new int[][] {{3, 1}, {3, 8}, {12, 1}, {12, 8}, {8, 4}}) {
            int columns = size[0];
            int rows = size[1];
            SandMarch x = Check.fieldOf("size " + columns + " by " + rows + ";sand 1;slope 9;heap " + (columns - 1) + " "
                    + (rows - 1) + " 4;heap 0 0 2;");
            for (int n = 0; n < columns; n++) {
                check.due("column " + n, x.skyline(n, 0), n == columns - 1 ? 5 : n == 0 ? 3 : 1);
            }
            for (int n = 0; n < rows; n++) {
                check.due("row " + n, x.skyline(n, 1), n == rows - 1 ? 5 : n == 0 ? 3 : 1);
            }
            for (int n : new int[] {-1, columns, columns + 1, MIN, MAX}) {
                check.due("skyline(" + n + ", 0)", x.skyline(n, 0), -1);
            }
            for (int n : new int[] {-1, rows, rows + 1, MIN, MAX}) {
                check.due("skyline(" + n + ", 1)", x.skyline(n, 1), -1);
            }
            for (int what : new int[] {-1, 2, 3, MIN, MAX}) {
                check.due("skyline(0, " + what + ")", x.skyline(0, what), -1);
            }
        }
        check.due("of bare ground", Check.fieldOf("size 3 by 1;sand 0;").skyline(0, 0), 0);
    }
}
