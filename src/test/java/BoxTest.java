/** Promises 39 to 41: image, back, about. */
public final class BoxTest {
    private static final Check check = new Check();

    public static void main(String[] args) {
        images();
        backs();
        whatABoxLeaves();
        abouts();
        check.finish("BoxTest");
    }

    private static void images() {
        SandMarch x = Check.fieldOf("size 4 by 2;sand 2;draw 3;");
        for (int box = 0; box < 3; box++) {
            check.due("back(" + box + ") of nothing", x.back(box), -1);
            check.due("image(" + box + ")", x.image(box), 16);
        }
        check.due("image(3)", x.image(3), -1);
        check.due("image(-1)", x.image(-1), -1);
        check.due("image(MAX)", x.image(Integer.MAX_VALUE), -1);
        check.due("no act", x.about(12), 0);
        x.put(1, 5);
        check.due("image(1) anew", x.image(1), 21);
        check.due("back(0)", x.back(0), 16);
        check.due("back(1)", x.back(1), 21);
        check.due("back(2)", x.back(2), 16);
    }

    private static void backs() {
        SandMarch x = Check.fieldOf("size 4 by 2;sand 2;draw 3;wind east 1 south 1;");
        x.blow(7);
        x.turn(0, 3);
        x.turn(1, 4);
        x.turn(2, 5);
        x.turn(3, 6);
        x.sow(5, true);
        String heights = Check.heights(x);
        int[] want = new int[17];
        for (int what = 0; what < 17; what++) {
            want[what] = x.about(what);
        }
        check.due("image(2)", x.image(2), 16);
        x.blow(40);
        x.turn(0, 1);
        x.turn(1, 1);
        x.turn(2, 1);
        x.turn(3, 1);
        x.sow(5, false);
        x.sow(0, true);
        x.put(0, 3);
        x.undo();
        check.due("back(2)", x.back(2), 16);
        check.dueHeights("as it was kept", x, heights);
        for (int what = 0; what < 17; what++) {
            check.due("kept about(" + what + ")", x.about(what), what == 12 ? 0 : want[what]);
        }
        check.due("cell(5, 2)", x.cell(5, 2), 1);
        check.due("cell(0, 2)", x.cell(0, 2), 0);
        check.due("undo()", x.undo(), false);
        check.due("redo()", x.redo(), false);
        check.due("wind goes on", x.wind(0), 1);
        x.put(0, 1);
        check.due("the box stays as it was", x.back(2), 16);
        for (int box : new int[] {0, 1, 3, -1, Integer.MIN_VALUE}) {
            x.put(0, 1);
            check.due("back(" + box + ")", x.back(box), -1);
            check.due("nothing is done", x.all(0) > 16, true);
            check.due("acts are kept", x.undo(), true);
        }
    }

    private static void whatABoxLeaves() {
        SandMarch x = Check.fieldOf("size 4 by 2;sand 2;draw 3;");
        x.image(0);
        x.later(3);
        x.seen(1, 1, 9, true);
        x.feed(0, 0, 0, 0, 0);
        x.back(0);
        check.due("what is seen stays", x.about(14), 1);
        check.due("the time stays", x.about(15), 3);
        check.due("the tape stays", x.about(16), 20);
        check.due("fits", x.fits(3), 0);
    }

    private static void abouts() {
        SandMarch x = Check.fieldOf("size 4 by 2;sand 2;draw 3;grass 0 0;grass 1 1;wind north 3 west 5;hop 3;shadow 4;"
                + "slope 5;stick 6 7;");
        x.blow(2);
        x.put(0, 1);
        x.undo();
        x.later(6);
        x.seen(0, 0, 0, true);
        x.seen(0, 0, 0, true);
        x.untell(0);
        x.feed(1, 2, 3, 4, 5);
        x.end(9);
        int[] want = {4, 2, 8, x.about(3), 2, 3, 4, 5, 6, 7, 2, 8, 1, 1, 2, 6, 9};
        for (int what = 0; what < 17; what++) {
            check.due("about(" + what + ")", x.about(what), want[what]);
        }
        for (int what : new int[] {-1, 17, Integer.MAX_VALUE, Integer.MIN_VALUE}) {
            check.due("about(" + what + ")", x.about(what), -1);
        }
        check.due("the seed went on", x.about(3) != 3, true);
        x.undo();
        check.due("and back", x.about(3), 3);
    }
}
