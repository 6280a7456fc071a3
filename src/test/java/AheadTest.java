/** Promises 18 and 28 to 32: lands, would, next, flux, game, tallest. */
public final class AheadTest {
    private static final Check check = new Check();
    private static final String DUNES = "size 9 by 5;sand 2;heap 2 1 9;heap 6 3 20;grass 3 3;wind east 3 south 2 west 1;draw 17;";

    public static void main(String[] args) {
        chances();
        chancesOfAll();
        chancesWithShadow();
        wrongChances();
        wouldBe();
        nextOnes();
        fluxThrough();
        games();
        tallestOf();
        nothingIsDone();
        check.finish("AheadTest");
    }

    private static void dueChance(SandMarch x, int cell, int to, int n, long upper, long lower) {
        String call = "lands(" + cell + ", " + to + ", " + n + ", ";
        check.due(call + "0)", x.lands(cell, to, n, 0), upper);
        check.due(call + "1)", x.lands(cell, to, n, 1), lower);
    }

    private static void chances() {
        SandMarch x = Check.fieldOf("size 4 by 1;sand 2;slope 9;shadow 9;hop 1;stick 4 0;");
        dueChance(x, 0, 1, 1, 1, 4);
        dueChance(x, 0, 2, 1, 0, 1);
        dueChance(x, 0, 2, 2, 3, 16);
        dueChance(x, 0, 0, 3, 0, 1);
        // there again
        dueChance(x, 0, 0, 4, 27, 256);
        // a second time round
        dueChance(x, 0, 1, 5, 337, 1024);
        SandMarch odd = Check.fieldOf("size 3 by 1;sand 2;slope 9;shadow 9;hop 3;stick 1 0;");
        // 1 - (15/16)^12
        long all = 1L << 48;
        long stay = 1;
        for (int i = 0; i < 12; i++) {
            stay *= 15;
        }
        dueChance(odd, 1, 1, 12, all - stay, all);
        SandMarch bare = Check.fieldOf("size 4 by 1;sand 0;heap 0 0 1;heap 2 0 1;slope 9;shadow 9;hop 1;stick 8 2;");
        dueChance(bare, 0, 1, 1, 1, 8);
        dueChance(bare, 0, 2, 2, 7, 16);
        // cell 0 is bare once the slab is taken
        dueChance(bare, 0, 0, 4, 49, 1024);
        SandMarch none = Check.fieldOf("size 4 by 1;sand 2;slope 9;shadow 9;hop 1;stick 0 0;");
        dueChance(none, 0, 1, 12, 0, 1);
    }

    private static void chancesOfAll() {
        SandMarch x = Check.fieldOf("size 5 by 1;sand 3;slope 9;shadow 9;hop 2;stick 16 16;");
        for (int to = 0; to < 5; to++) {
            dueChance(x, 1, to, 12, to == 3 ? 1 : 0, 1);
        }
        SandMarch south = Check.fieldOf("size 3 by 4;sand 3;slope 9;shadow 9;hop 1;stick 8 8;wind south 1 north 1;");
        dueChance(south, 1, 4, 1, 1, 2);
        dueChance(south, 1, 10, 3, 1, 8);
        south.blow(1);
        dueChance(south, 1, 7, 2, 1, 4);
    }

    private static void chancesWithShadow() {
        // cell 2 is 6: cells 3, 4, 5 in shadow; without the slab cell 5 is not
        SandMarch x = Check.fieldOf("size 8 by 1;sand 0;slope 9;hop 3;stick 0 4;heap 2 0 6;");
        check.due("shadow on 5", x.cell(5, 1), 1);
        dueChance(x, 2, 5, 1, 1, 4);
        SandMarch y = Check.fieldOf("size 8 by 1;sand 0;slope 9;hop 2;stick 0 4;heap 2 0 6;");
        dueChance(y, 2, 4, 1, 1, 1);
        dueChance(y, 2, 6, 9, 0, 1);
        // being filled from cell 3, cell 2 is as high as before
        SandMarch z = Check.fieldOf("size 8 by 1;sand 1;slope 1;shadow 1;hop 2;stick 16 16;heap 2 0 1;heap 3 0 2;heap 4 0 1;");
        check.dueHeights("told", z, "1 1 2 3 2 1 1 1");
        dueChance(z, 1, 3, 1, 1, 1);
    }

    private static void wrongChances() {
        SandMarch x = Check.fieldOf("size 5 by 1;sand 0;heap 2 0 4;heap 3 0 1;heap 0 0 1;slope 9;grass 0 0;");
        int[][] wrong = {{2, 4, 0, 0}, {2, 4, 13, 0}, {2, 4, -1, 0}, {2, 5, 1, 0}, {2, -1, 1, 0}, {5, 1, 1, 0}, {-1, 1, 1, 0},
            {2, 4, 1, 2}, {2, 4, 1, -1}, {0, 2, 1, 0}, {0, 2, 1, 1}, {1, 2, 1, 0}, {3, 4, 1, 0}, {3, 4, 1, 1}};
        for (int[] w : wrong) {
            check.due("lands(" + w[0] + ", " + w[1] + ", " + w[2] + ", " + w[3] + ")", x.lands(w[0], w[1], w[2], w[3]), -1);
        }
        check.due("a right one", x.lands(2, 4, 1, 1), 8);
    }

    private static void wouldBe() {
        for (int n : new int[] {0, 1, 7, 100, 500}) {
            SandMarch x = Check.fieldOf(DUNES);
            SandMarch y = Check.fieldOf(DUNES);
            x.blow(13);
            y.blow(13);
            if (n > 0) {
                y.blow(n);
            }
            for (int cell = 0; cell < 45; cell++) {
                check.due("would(" + n + ", " + cell + ")", x.would(n, cell), y.cell(cell, 0));
            }
            check.due("tries stay", x.about(4), 13);
        }
        SandMarch x = Check.fieldOf(DUNES);
        int[][] wrong = {{-1, 0}, {501, 0}, {3, -1}, {3, 45}};
        for (int[] w : wrong) {
            check.due("would(" + w[0] + ", " + w[1] + ")", x.would(w[0], w[1]), -1);
        }
    }

    private static void nextOnes() {
        SandMarch x = Check.fieldOf(DUNES);
        SandMarch y = Check.fieldOf(DUNES);
        int busy = y.blow(500);
        check.due("next(500, 0)", x.next(500, 0), 500 - busy);
        for (int what = 0; what < 3; what++) {
            check.due("next(0, " + what + ")", x.next(0, what), 0);
            check.due("next(-1, " + what + ")", x.next(-1, what), -1);
            check.due("next(501, " + what + ")", x.next(501, what), -1);
        }
        check.due("next(3, 3)", x.next(3, 3), -1);
        check.due("next(3, -1)", x.next(3, -1), -1);
        // twenty hops, no slide
        SandMarch hops = Check.fieldOf("size 5 by 1;sand 1;slope 9;shadow 9;stick 0 0;");
        check.due("hops", hops.next(3, 1), 60);
        check.due("slides", hops.next(3, 2), 0);
        // filled: one slide
        SandMarch one = filled();
        check.due("idle", one.next(1, 0), 0);
        check.due("hops", one.next(1, 1), 1);
        check.due("slides", one.next(1, 2), 1);
        // from cell 0, which is filled from cell 1; on cell 2 it is too steep then, and it slides to cell 1
        SandMarch two = Check.fieldOf("size 5 by 1;sand 1;slope 1;shadow 9;hop 2;stick 16 16;heap 2 0 2;heap 3 0 1;draw "
                + Draws.seedFor(5, 0) + ";");
        check.dueHeights("told", two, "1 2 2 2 1");
        check.due("slides", two.next(1, 2), 2);
        check.due("would(1, 1)", two.would(1, 1), 2);
    }

    private static SandMarch filled() {
        return Check.fieldOf("size 4 by 1;sand 1;heap 1 0 1;slope 1;hop 2;stick 16 16;shadow 9;draw "
                + Draws.seedFor(4, 0) + ";");
    }

    private static void fluxThrough() {
        SandMarch east = Check.fieldOf("size 3 by 1;sand 1;slope 9;shadow 9;hop 6;stick 16 16;");
        SandMarch west = Check.fieldOf("size 3 by 1;sand 1;slope 9;shadow 9;hop 6;stick 16 16;wind west 1;");
        SandMarch south = Check.fieldOf("size 3 by 2;sand 1;slope 9;shadow 9;hop 6;stick 16 16;wind south 1;");
        for (int column = 0; column < 3; column++) {
            check.due("each as often", east.flux(column, 2), 4);
            check.due("to the west", west.flux(column, 2), -4);
            check.due("to the south", south.flux(column, 2), 0);
            check.due("of none", east.flux(column, 0), 0);
            check.due("of 500", east.flux(column, 500), 1000);
        }
        // from 0 two to the east, and a slide from 1 to 0
        int[] want = {0, 0, 1, 0};
        for (int column = 0; column < 4; column++) {
            check.due("slides, too: flux(" + column + ", 1)", filled().flux(column, 1), want[column]);
        }
        SandMarch x = Check.fieldOf("size 7 by 1;sand 1;slope 9;shadow 9;hop 3;stick 16 16;wind west 1;draw "
                + Draws.seedFor(7, 1) + ";");
        int[] over = {-1, -1, 0, 0, 0, 0, -1};
        for (int column = 0; column < 7; column++) {
            check.due("flux(" + column + ", 1)", x.flux(column, 1), over[column]);
        }
        int[][] wrong = {{7, 1}, {-1, 1}, {0, -1}, {0, 501}};
        for (int[] w : wrong) {
            check.due("flux(" + w[0] + ", " + w[1] + ")", x.flux(w[0], w[1]), -1);
        }
    }

    private static void games() {
        for (int seed : new int[] {0, 3, 9999}) {
            SandMarch x = Check.fieldOf(DUNES);
            SandMarch y = Check.fieldOf(DUNES.replace("draw 17", "draw " + seed));
            int busy = y.blow(250);
            int[] want = {y.all(1), y.all(2), y.dunes(1), busy};
            for (int what = 0; what < 4; what++) {
                check.due("game(" + seed + ", 250, " + what + ")", x.game(seed, 250, what), want[what]);
            }
        }
        SandMarch x = Check.fieldOf(DUNES);
        check.due("of no tries", x.game(5, 0, 0), x.all(1));
        check.due("of no tries", x.game(5, 0, 3), 0);
        check.due("of 500", x.game(17, 500, 3), 500 - x.next(500, 0));
        int[][] wrong = {{-1, 1, 0}, {10000, 1, 0}, {0, -1, 0}, {0, 501, 0}, {0, 1, 4}, {0, 1, -1}};
        for (int[] w : wrong) {
            check.due("game(" + w[0] + ", " + w[1] + ", " + w[2] + ")", x.game(w[0], w[1], w[2]), -1);
        }
        x.blow(4);
        int seedNow = x.about(3);
        if (seedNow <= 9999) {
            check.due("by the seed of now", x.game(seedNow, 60, 3), 60 - x.next(60, 0));
        }
    }

    private static void tallestOf() {
        SandMarch x = Check.fieldOf("size 5 by 3;sand 2;heap 1 1 4;slope 4;stick 12 12;wind east 2 north 1;");
        x.blow(3);
        for (int n : new int[] {0, 1, 30, 200}) {
            int best = 0;
            int most = -1;
            for (int seed = 0; seed < 50; seed++) {
                if (x.game(seed, n, 0) > most) {
                    most = x.game(seed, n, 0);
                    best = seed;
                }
            }
            check.due("tallest(" + n + ", 0)", x.tallest(n, 0), best);
            check.due("tallest(" + n + ", 1)", x.tallest(n, 1), most);
        }
        check.due("of like ones the first", x.tallest(0, 0), 0);
        int[][] wrong = {{-1, 0}, {201, 0}, {1, 2}, {1, -1}};
        for (int[] w : wrong) {
            check.due("tallest(" + w[0] + ", " + w[1] + ")", x.tallest(w[0], w[1]), -1);
        }
    }

    private static void nothingIsDone() {
        SandMarch x = Check.fieldOf(DUNES);
        x.blow(20);
        x.undo();
        String was = Check.heights(x);
        x.lands(0, 1, 3, 0);
        x.would(100, 3);
        x.next(100, 1);
        x.flux(1, 100);
        x.game(7, 100, 2);
        x.tallest(50, 1);
        check.dueHeights("nothing is done", x, was);
        check.due("seed", x.about(3), 17);
        check.due("tries", x.about(4), 0);
        check.due("redo is kept", x.redo(), true);
    }
}
