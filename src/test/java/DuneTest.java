/** Promises 19 to 27: dunes, dune, duneOf, parts, saddle, crests, follows, fates, shift. */
public final class DuneTest {
    private static final Check check = new Check();

    public static void main(String[] args) {
        countingDunes();
        ofOneDune();
        whichDune();
        partsAtLevels();
        saddles();
        crestLines();
        following();
        fatesOfDunes();
        shifts();
        nothingIsDone();
        check.finish("DuneTest");
    }

    // 3 0 2 2 0 1
    // 0 0 2 0 0 0
    // 1 0 0 0 4 0
    private static SandMarch map(String more) {
        return Check.fieldOf("size 6 by 3;sand 0;slope 9;heap 0 0 3;heap 2 0 2;heap 3 0 2;heap 5 0 1;heap 2 1 2;"
                + "heap 0 2 1;heap 4 2 4;" + more);
    }

    private static void countingDunes() {
        SandMarch x = map("");
        int[] want = {-1, 3, 3, 2, 1, 0, 0};
        for (int level = 0; level < want.length; level++) {
            check.due("dunes(" + level + ")", x.dunes(level), want[level]);
        }
        check.due("dunes(-1)", x.dunes(-1), -1);
        check.due("dunes(MAX)", x.dunes(Integer.MAX_VALUE), 0);
        check.due("dunes(MIN)", x.dunes(Integer.MIN_VALUE), -1);
        check.due("corners don't join", Check.fieldOf("size 4 by 4;sand 0;heap 0 0 1;heap 1 1 1;").dunes(1), 2);
    }

    private static void ofOneDune() {
        SandMarch x = map("");
        int[][] want = {{0, 3, 5, 3, 0, 2, 2}, {2, 3, 6, 2, 2, 2, 2}, {16, 1, 4, 4, 16, 1, 1}};
        for (int dune = 0; dune < 3; dune++) {
            for (int what = 0; what < 7; what++) {
                check.due("dune(1, " + dune + ", " + what + ")", x.dune(1, dune, what), want[dune][what]);
            }
        }
        check.due("dune(2, 0, 1)", x.dune(2, 0, 1), 1);
        check.due("dune(3, 1, 0)", x.dune(3, 1, 0), 16);
        for (int[] wrong : new int[][] {{0, 0, 0}, {-1, 0, 0}, {1, 3, 0}, {1, -1, 0}, {1, 0, 7}, {1, 0, -1}, {5, 0, 0}}) {
            check.due("dune(" + wrong[0] + ", " + wrong[1] + ", " + wrong[2] + ")",
                    x.dune(wrong[0], wrong[1], wrong[2]), -1);
        }
        for (int what = 0; what < 7; what++) {
            check.due("dune(1, 3, " + what + ")", x.dune(1, 3, what), -1);
            check.due("dune(1, -1, " + what + ")", x.dune(1, -1, what), -1);
        }
        SandMarch y = Check.fieldOf("size 5 by 2;sand 1;slope 9;heap 3 0 2;heap 1 1 2;");
        check.due("the first of the greatest", y.dune(1, 0, 4), 3);
        check.due("all columns", y.dune(1, 0, 5), 5);
        check.due("all rows", y.dune(1, 0, 6), 2);
    }

    private static void whichDune() {
        SandMarch x = map("");
        int[][] want = {{1, 5, 0}, {1, 12, 0}, {1, 8, 1}, {1, 1, -1}, {2, 5, -1}, {2, 16, 2}, {3, 16, 1}, {4, 16, 0},
            {5, 16, -1}, {0, 0, -1}, {-3, 0, -1}, {1, 18, -1}, {1, -1, -1}};
        for (int[] w : want) {
            check.due("duneOf(" + w[0] + ", " + w[1] + ")", x.duneOf(w[0], w[1]), w[2]);
        }
    }

    private static void partsAtLevels() {
        SandMarch x = map("");
        int[] want = {-1, 1, 1, 1, -1};
        for (int n = 0; n < want.length; n++) {
            check.due("parts(" + n + ")", x.parts(n), want[n]);
        }
        SandMarch y = Check.fieldOf("size 8 by 1;sand 2;slope 9;heap 1 0 3;heap 3 0 2;heap 5 0 7;heap 4 0 1;");
        // 2 5 2 4 3 9 2 2: at 3 two, at 4 three
        int[] more = {-1, 1, 3, 4, -1};
        for (int n = 0; n < more.length; n++) {
            check.due("more parts(" + n + ")", y.parts(n), more[n]);
        }
        check.due("parts(-1)", y.parts(-1), -1);
        check.due("parts(MAX)", y.parts(Integer.MAX_VALUE), -1);
        check.due("of a bare field", Check.fieldOf("sand 0;").parts(1), -1);
    }

    private static void saddles() {
        SandMarch x = map("");
        int[][] want = {{0, 5, 1}, {5, 0, 1}, {0, 16, 0}, {2, 8, 2}, {1, 1, 0}, {16, 16, 4}, {1, 0, 0}, {0, 18, -1},
            {18, 0, -1}, {-1, 0, -1}, {0, -1, -1}};
        for (int[] w : want) {
            check.due("saddle(" + w[0] + ", " + w[1] + ")", x.saddle(w[0], w[1]), w[2]);
        }
        SandMarch y = Check.fieldOf("size 8 by 1;sand 2;slope 9;heap 1 0 3;heap 3 0 2;heap 5 0 7;heap 4 0 1;");
        check.due("by 4", y.saddle(3, 5), 3);
        check.due("by the least between", y.saddle(1, 5), 2);
        check.due("beside", y.saddle(4, 5), 3);
        check.due("one of them is the lowest", y.saddle(0, 5), 2);
    }

    private static void crestLines() {
        SandMarch x = map("");
        check.due("crests(0)", x.crests(0), 2);
        check.due("crests(1)", x.crests(1), 3);
        check.due("crests(2)", x.crests(2), 3);
        check.due("crests(3)", x.crests(3), -1);
        check.due("crests(-1)", x.crests(-1), -1);
        SandMarch flat = new SandMarch();
        check.due("flat crests(0)", flat.crests(0), 0);
        check.due("flat crests(1)", flat.crests(1), 0);
        check.due("flat crests(2)", flat.crests(2), -1);
        SandMarch like = Check.fieldOf("size 8 by 1;sand 0;slope 9;heap 1 0 3;heap 5 0 7;");
        check.due("two lines", like.crests(0), 2);
        check.due("of like ones the first", like.crests(2), 1);
    }

    private static void following() {
        SandMarch x = map("");
        check.due("nothing kept", x.follows(0, 1, 0), -1);
        x.image(0);
        for (int dune = 0; dune < 3; dune++) {
            check.due("itself", x.follows(0, 1, dune), dune);
        }
        x.put(1, 1);
        check.due("of like ones the first", x.follows(0, 1, 0), 0);
        check.due("the last one", x.follows(0, 1, 1), 2);
        x.take(5);
        check.due("most in common", x.follows(0, 1, 0), 1);
        x.put(10, 1);
        check.due("with the one it joined", x.follows(0, 1, 1), 2);
        x.put(7, 5);
        check.due("new at level 5", x.follows(0, 5, 0), -1);
        for (int[] wrong : new int[][] {{1, 1, 0}, {3, 1, 0}, {-1, 1, 0}, {0, 0, 0}, {0, 1, 2}, {0, 1, -1}}) {
            check.due("follows(" + wrong[0] + ", " + wrong[1] + ", " + wrong[2] + ")",
                    x.follows(wrong[0], wrong[1], wrong[2]), -1);
        }
    }

    private static void dueFates(SandMarch x, int box, int level, int... want) {
        for (int what = 0; what < 4; what++) {
            check.due("fates(" + box + ", " + level + ", " + what + ")", x.fates(box, level, what), want[what]);
        }
    }

    private static void fatesOfDunes() {
        SandMarch x = map("");
        x.image(0);
        dueFates(x, 0, 1, 0, 0, 0, 0);
        x.put(1, 1);
        dueFates(x, 0, 1, 1, 0, 0, 0);
        for (int i = 0; i < 4; i++) {
            x.take(16);
        }
        dueFates(x, 0, 1, 1, 0, 1, 0);
        x.put(10, 1);
        dueFates(x, 0, 1, 1, 0, 1, 1);
        dueFates(x, 0, 4, 0, 0, 1, 0);
        dueFates(x, 0, 9, 0, 0, 0, 0);
        x.image(2);
        x.take(1);
        dueFates(x, 2, 1, 0, 1, 0, 0);
        for (int[] wrong : new int[][] {{1, 1, 0}, {3, 1, 0}, {-1, 1, 0}, {0, 0, 0}, {0, -1, 0}, {0, 1, 4}, {0, 1, -1}}) {
            check.due("fates(" + wrong[0] + ", " + wrong[1] + ", " + wrong[2] + ")",
                    x.fates(wrong[0], wrong[1], wrong[2]), -1);
        }
    }

    private static void dueShift(SandMarch x, int columns, int rows, int overlap) {
        check.due("shift columns", x.shift(0, 0), columns);
        check.due("shift rows", x.shift(0, 1), rows);
        check.due("overlap", x.shift(0, 2), overlap);
    }

    private static void shifts() {
        SandMarch x = Check.fieldOf("size 5 by 3;sand 0;slope 9;heap 1 1 3;");
        check.due("nothing kept", x.shift(0, 0), -1);
        x.image(0);
        dueShift(x, 0, 0, 3);
        x.take(6);
        dueShift(x, 0, 0, 2);
        x.take(6);
        x.take(6);
        dueShift(x, 0, 0, 0);
        x.put(13, 3);
        dueShift(x, 2, 1, 3);
        x.put(5, 3);
        dueShift(x, 4, 0, 3);
        x.put(14, 9);
        dueShift(x, 4, 0, 3);
        x.take(5);
        dueShift(x, 2, 1, 3);
        check.due("shift(0, 3)", x.shift(0, 3), -1);
        check.due("shift(0, -1)", x.shift(0, -1), -1);
        check.due("shift(1, 0)", x.shift(1, 0), -1);
        check.due("shift(3, 0)", x.shift(3, 0), -1);
        check.due("shift(-1, 0)", x.shift(-1, 0), -1);
    }

    private static void nothingIsDone() {
        SandMarch x = map("draw 9;");
        x.image(0);
        x.put(1, 1);
        String was = Check.heights(x);
        x.dunes(2);
        x.dune(1, 0, 3);
        x.parts(2);
        x.saddle(0, 3);
        x.crests(2);
        x.fates(0, 1, 1);
        x.shift(0, 1);
        check.dueHeights("nothing is done", x, was);
        check.due("one act", x.about(12), 1);
        check.due("seed", x.about(3), 9);
    }
}
