/** Promises 6 to 8, 16 and 17: cell, beside, wind, all, skyline. */
public final class CellTest {
    private static final Check check = new Check();

    public static void main(String[] args) {
        cells();
        shadowsByRow();
        shadowsByColumn();
        shadowEdges();
        crestsOfCells();
        besides();
        winds();
        alls();
        skylines();
        check.finish("CellTest");
    }

    private static SandMarch peak(String more) {
        return Check.fieldOf("size 3 by 3;sand 1;heap 1 1 3;slope 9;shadow 2;" + more);
    }

    private static void cells() {
        SandMarch x = peak("grass 2 1;");
        check.due("height", x.cell(4, 0), 4);
        check.due("height", x.cell(0, 0), 1);
        check.due("grass", x.cell(5, 2), 1);
        check.due("grass", x.cell(4, 2), 0);
        check.due("higher than the lowest", x.cell(4, 3), 3);
        check.due("none is lower", x.cell(3, 3), 0);
        for (int what = 0; what < 5; what++) {
            check.due("cell(9, " + what + ")", x.cell(9, what), -1);
            check.due("cell(-1, " + what + ")", x.cell(-1, what), -1);
        }
        check.due("cell(0, 5)", x.cell(0, 5), -1);
        check.due("cell(0, -1)", x.cell(0, -1), -1);
        check.due("cell(MAX, 0)", x.cell(Integer.MAX_VALUE, 0), -1);
        check.due("cell(MIN, 0)", x.cell(Integer.MIN_VALUE, 0), -1);
    }

    private static void dueShadows(SandMarch x, String want) {
        StringBuilder got = new StringBuilder();
        for (int cell = 0; cell < x.about(2); cell++) {
            got.append(x.cell(cell, 1));
        }
        check.due("shadows " + got + ", due are " + want, got.toString().equals(want), true);
    }

    private static void shadowsByRow() {
        dueShadows(Check.fieldOf("size 5 by 1;sand 0;heap 2 0 4;slope 9;"), "00011");
        dueShadows(Check.fieldOf("size 5 by 1;sand 0;heap 2 0 4;slope 9;wind west 1;"), "11000");
        dueShadows(Check.fieldOf("size 5 by 1;sand 0;heap 2 0 4;slope 9;shadow 4;"), "00010");
        dueShadows(Check.fieldOf("size 5 by 1;sand 0;heap 2 0 4;slope 9;shadow 5;"), "00000");
        // round the edge, up to one less than there are in a row
        dueShadows(Check.fieldOf("size 5 by 1;sand 0;heap 4 0 9;slope 9;shadow 1;"), "11110");
        // with one row there is no shadow from the north or the south
        dueShadows(Check.fieldOf("size 5 by 1;sand 0;heap 4 0 9;slope 9;shadow 1;wind north 1;"), "00000");
    }

    private static void shadowsByColumn() {
        dueShadows(peak("wind south 1;"), "000000010");
        dueShadows(peak("wind north 1;"), "010000000");
        dueShadows(peak("wind west 1;"), "000100000");
        dueShadows(peak("wind east 1;"), "000001000");
        SandMarch x = peak("wind south 1 west 1;stick 0 0;grass 0 0;grass 1 0;grass 2 0;grass 0 1;grass 1 1;grass 2 1;"
                + "grass 0 2;grass 1 2;grass 2 2;");
        dueShadows(x, "000000010");
        check.due("an idle try", x.blow(1), 0);
        dueShadows(x, "000100000");
    }

    private static void shadowEdges() {
        // 3 and 4 on two cells behind one another: k times shadow or more
        dueShadows(Check.fieldOf("size 4 by 1;sand 1;heap 0 0 4;slope 9;shadow 2;"), "0110");
        dueShadows(Check.fieldOf("size 4 by 1;sand 1;heap 0 0 5;slope 9;shadow 2;"), "0110");
        dueShadows(Check.fieldOf("size 4 by 1;sand 1;heap 0 0 6;slope 9;shadow 2;"), "0111");
        SandMarch x = Check.fieldOf("size 4 by 1;sand 1;heap 0 0 3;slope 9;shadow 3;");
        dueShadows(x, "0100");
        x.turn(1, 4);
        dueShadows(x, "0000");
        x.turn(1, 1);
        dueShadows(x, "0111");
    }

    private static void crestsOfCells() {
        SandMarch x = Check.fieldOf("size 6 by 1;sand 0;slope 9;heap 0 0 1;heap 1 0 2;heap 2 0 2;heap 4 0 3;");
        int[] east = {0, 0, 1, 0, 1, 0};
        for (int cell = 0; cell < 6; cell++) {
            check.due("crest " + cell, x.cell(cell, 4), east[cell]);
        }
        SandMarch y = Check.fieldOf("size 6 by 1;sand 0;slope 9;heap 0 0 1;heap 1 0 2;heap 2 0 2;heap 4 0 3;wind west 1;");
        int[] west = {0, 1, 0, 0, 1, 0};
        for (int cell = 0; cell < 6; cell++) {
            check.due("crest by west " + cell, y.cell(cell, 4), west[cell]);
        }
        SandMarch z = Check.fieldOf("size 6 by 1;sand 0;slope 9;heap 0 0 1;wind south 1;");
        check.due("none is higher than itself", z.cell(0, 4), 0);
    }

    private static void besides() {
        SandMarch x = Check.fieldOf("size 4 by 3;");
        int[][] want = {{0, 1, 4, 3, 8}, {11, 8, 3, 10, 7}, {5, 6, 9, 4, 1}, {3, 0, 7, 2, 11}};
        for (int[] w : want) {
            for (int way = 0; way < 4; way++) {
                check.due("beside(" + w[0] + ", " + way + ")", x.beside(w[0], way), w[way + 1]);
            }
        }
        check.due("beside(12, 0)", x.beside(12, 0), -1);
        check.due("beside(-1, 0)", x.beside(-1, 0), -1);
        check.due("beside(0, 4)", x.beside(0, 4), -1);
        check.due("beside(0, -1)", x.beside(0, -1), -1);
        SandMarch y = Check.fieldOf("size 3 by 2;");
        check.due("of two rows the same to the south", y.beside(1, 1), 4);
        check.due("and to the north", y.beside(1, 3), 4);
        SandMarch z = Check.fieldOf("size 3 by 1;");
        check.due("of one row itself", z.beside(1, 1), 1);
        check.due("of one row itself", z.beside(1, 3), 1);
    }

    private static void winds() {
        SandMarch x = Check.fieldOf("wind west 2 north 1 west 1 south 3;");
        int[] want = {2, 2, 3, 2, 1, 1, 1};
        for (int n = 0; n < 30; n++) {
            check.due("wind(" + n + ")", x.wind(n), want[n % 7]);
        }
        check.due("wind(9999)", x.wind(9999), want[9999 % 7]);
        check.due("wind(10000)", x.wind(10000), -1);
        check.due("wind(-1)", x.wind(-1), -1);
        x.blow(5);
        check.due("behind 5 tries wind(0)", x.wind(0), 1);
        check.due("behind 5 tries wind(2)", x.wind(2), 2);
        check.due("behind 5 tries wind(9999)", x.wind(9999), want[10004 % 7]);
    }

    private static void alls() {
        SandMarch x = peak("wind south 1;grass 0 0;");
        int[] want = {12, 4, 0, 1, 3, 12, 7};
        for (int what = 0; what < 7; what++) {
            check.due("all(" + what + ")", x.all(what), want[what]);
        }
        check.due("all(7)", x.all(7), -1);
        check.due("all(-1)", x.all(-1), -1);
        SandMarch bare = Check.fieldOf("size 3 by 2;sand 0;");
        int[] none = {0, 0, 6, 0, 0, 0, 0};
        for (int what = 0; what < 7; what++) {
            check.due("bare all(" + what + ")", bare.all(what), none[what]);
        }
        SandMarch y = Check.fieldOf("size 3 by 2;sand 0;slope 9;heap 0 0 2;");
        // to the south each of two rows counts: once down, once up
        int[] flat = {2, 2, 5, 1, 2, 8, 1};
        for (int what = 0; what < 7; what++) {
            check.due("two rows all(" + what + ")", y.all(what), flat[what]);
        }
    }

    private static void skylines() {
        SandMarch x = Check.fieldOf("size 4 by 2;sand 1;slope 9;heap 1 0 3;heap 3 1 5;");
        int[] columns = {1, 4, 1, 6};
        for (int n = 0; n < 4; n++) {
            check.due("skyline(" + n + ", 0)", x.skyline(n, 0), columns[n]);
        }
        check.due("skyline(0, 1)", x.skyline(0, 1), 4);
        check.due("skyline(1, 1)", x.skyline(1, 1), 6);
        check.due("skyline(4, 0)", x.skyline(4, 0), -1);
        check.due("skyline(2, 1)", x.skyline(2, 1), -1);
        check.due("skyline(-1, 0)", x.skyline(-1, 0), -1);
        check.due("skyline(-1, 1)", x.skyline(-1, 1), -1);
        check.due("skyline(0, 2)", x.skyline(0, 2), -1);
        check.due("skyline(0, -1)", x.skyline(0, -1), -1);
    }
}
