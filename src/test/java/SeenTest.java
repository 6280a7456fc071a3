/** Promises 33 to 38: seen, untell, later, fits, fit, ask. */
public final class SeenTest {
    private static final Check check = new Check();
    private static final String FIELD = "size 4 by 2;sand 2;heap 1 0 2;grass 3 1;wind east 2 south 1;stick 9 5;";

    public static void main(String[] args) {
        telling();
        fitting();
        fromTheFieldAsTold();
        twoTimes();
        time();
        asking();
        wrongAsks();
        check.finish("SeenTest");
    }

    /** The height of a cell behind n tries by a seed, by another object whose text tells that seed. */
    private static int height(int seed, int n, int cell) {
        SandMarch y = Check.fieldOf(FIELD + "draw " + seed + ";");
        if (n > 0) {
            y.blow(n);
        }
        return y.cell(cell, 0);
    }

    private static void telling() {
        SandMarch x = Check.fieldOf(FIELD);
        int[][] wrong = {{-1, 0, 0}, {201, 0, 0}, {0, -1, 0}, {0, 8, 0}, {0, 0, -1}, {0, 0, Integer.MIN_VALUE}};
        for (int[] w : wrong) {
            check.due("seen(" + w[0] + ", " + w[1] + ", " + w[2] + ")", x.seen(w[0], w[1], w[2], true), -1);
        }
        check.due("none yet", x.about(14), 0);
        for (int i = 0; i < 20; i++) {
            check.due("seen " + i, x.seen(i * 10, i % 8, i == 3 ? Integer.MAX_VALUE : 0, i != 3), i);
            check.due("about(14)", x.about(14), i + 1);
        }
        check.due("a 21st", x.seen(0, 0, 0, true), -1);
        check.due("untell(20)", x.untell(20), false);
        check.due("untell(-1)", x.untell(-1), false);
        check.due("untell(4)", x.untell(4), true);
        check.due("untell(4) again", x.untell(4), false);
        check.due("still 20", x.about(14), 20);
        check.due("still no 21st", x.seen(0, 0, 0, true), -1);
        check.due("all fit", x.fits(0), 50);
        check.due("no act", x.about(12), 0);
    }

    private static void fitting() {
        SandMarch x = Check.fieldOf(FIELD);
        int[][] seens = {{7, 2, 3, 1}, {20, 5, 3, 0}, {3, 0, 2, 1}};
        boolean[] fits = new boolean[50];
        java.util.Arrays.fill(fits, true);
        for (int[] s : seens) {
            x.seen(s[0], s[1], s[2], s[3] == 1);
            int count = 0;
            for (int seed = 0; seed < 50; seed++) {
                fits[seed] &= height(seed, s[0], s[1]) >= s[2] == (s[3] == 1);
                if (fits[seed]) {
                    check.due("fit(" + count + ", 0)", x.fit(count, 0), seed);
                    count++;
                }
            }
            check.due("fits(0)", x.fits(0), count);
            check.due("fit(" + count + ", 0)", x.fit(count, 0), -1);
        }
        check.due("fit(-1, 0)", x.fit(-1, 0), -1);
        check.due("fit(MAX, 0)", x.fit(Integer.MAX_VALUE, 0), -1);
        check.due("the other half", x.fits(0) > 0 && x.fits(0) < 50, true);
        x.seen(7, 2, 3, false);
        check.due("both can't be", x.fits(0), 0);
        check.due("fit(0, 0)", x.fit(0, 0), -1);
        check.due("before it was told", x.fits(-1), 50);
        check.due("fit(49, -1)", x.fit(49, -1), 49);
    }

    private static void fromTheFieldAsTold() {
        SandMarch x = Check.fieldOf(FIELD);
        SandMarch y = Check.fieldOf(FIELD);
        y.blow(50);
        y.turn(0, 5);
        y.turn(2, 1);
        y.sow(1, true);
        y.put(2, 30);
        y.image(0);
        y.back(0);
        x.seen(9, 2, 3, true);
        y.seen(9, 2, 3, true);
        check.due("fits", y.fits(0), x.fits(0));
        for (int i = 0; i < x.fits(0); i++) {
            check.due("fit(" + i + ")", y.fit(i, 0), x.fit(i, 0));
        }
        check.due("ask", y.ask(30, 0, 0), x.ask(30, 0, 0));
        check.due("ask", y.ask(30, 1, 0), x.ask(30, 1, 0));
        check.due("seen does nothing to the sand", y.about(4), 50);
    }

    private static void twoTimes() {
        SandMarch x = Check.fieldOf(FIELD);
        x.later(5);
        x.seen(0, 0, 9, true); // fits none
        x.later(5);
        check.due("at 4", x.fits(4), 50);
        check.due("at 5", x.fits(5), 0);
        check.due("at 10", x.fits(10), 0);
        check.due("at MAX", x.fits(Integer.MAX_VALUE), 0);
        check.due("untell(0)", x.untell(0), true);
        check.due("known at 9", x.fits(9), 0);
        check.due("known at 10", x.fits(10), 50);
        check.due("known at 5", x.fits(5), 0);
        check.due("known at 4", x.fits(4), 50);
        check.due("known at MIN", x.fits(Integer.MIN_VALUE), 50);
        check.due("ask as known at 9", x.ask(3, 1, 9), -1);
        check.due("ask as known at 10", x.ask(0, 1, 10), 50);
        x.seen(0, 0, 9, true);
        check.due("told again", x.fits(10), 0);
        x.untell(1);
        check.due("untold at the same time", x.fits(10), 50);
        check.due("fit(0, 9)", x.fit(0, 9), -1);
        check.due("fit(0, 10)", x.fit(0, 10), 0);
    }

    private static void time() {
        SandMarch x = new SandMarch();
        check.due("later(0)", x.later(0), 0);
        check.due("later(1000)", x.later(1000), 1000);
        check.due("later(1001)", x.later(1001), -1);
        check.due("later(-1)", x.later(-1), -1);
        check.due("later(MAX)", x.later(Integer.MAX_VALUE), -1);
        check.due("about(15)", x.about(15), 1000);
        for (int i = 2; i <= 99; i++) {
            x.later(1000);
        }
        check.due("later(999)", x.later(999), 99999);
        check.due("later(2)", x.later(2), -1);
        check.due("later(1)", x.later(1), 100000);
        check.due("later(1)", x.later(1), -1);
        check.due("later(0)", x.later(0), 100000);
        check.due("undo()", x.undo(), false);
    }

    private static void asking() {
        SandMarch x = Check.fieldOf(FIELD);
        for (int round = 0; round < 3; round++) {
            for (int n : new int[] {0, 1, 12, 60}) {
                int best = -1;
                int fewest = 51;
                int[][] heights = new int[50][8];
                int fits = x.fits(0);
                for (int i = 0; i < fits; i++) {
                    SandMarch y = Check.fieldOf(FIELD + "draw " + x.fit(i, 0) + ";");
                    y.blow(n);
                    for (int cell = 0; cell < 8; cell++) {
                        heights[i][cell] = y.cell(cell, 0);
                    }
                }
                for (int cell = 0; cell < 8; cell++) {
                    int most = 0;
                    for (int i = 0; i < fits; i++) {
                        int alike = 0;
                        for (int j = 0; j < fits; j++) {
                            alike += heights[j][cell] == heights[i][cell] ? 1 : 0;
                        }
                        most = Math.max(most, alike);
                    }
                    if (most < fewest) {
                        fewest = most;
                        best = cell;
                    }
                }
                check.due("ask(" + n + ", 0)", x.ask(n, 0, 0), best);
                check.due("ask(" + n + ", 1)", x.ask(n, 1, 0), fewest);
            }
            x.seen(12 * round + 5, 2 + round, 3, false);
        }
        check.due("of none tries all are alike", x.ask(0, 1, -1), 50);
        check.due("the first", x.ask(0, 0, -1), 0);
    }

    private static void wrongAsks() {
        SandMarch x = Check.fieldOf(FIELD);
        int[][] wrong = {{-1, 0}, {201, 0}, {1, 2}, {1, -1}};
        for (int[] w : wrong) {
            check.due("ask(" + w[0] + ", " + w[1] + ", 0)", x.ask(w[0], w[1], 0), -1);
        }
        check.due("ask(200, 0, 0)", x.ask(200, 0, 0) >= 0, true);
        x.seen(0, 0, 9, true);
        check.due("none fits", x.ask(1, 0, 0), -1);
        check.due("none fits", x.ask(1, 1, 0), -1);
    }
}
