/** Each sentence of promises 4 and 39 to 41 that names a limit: BOXES 0 to 2, what a BOX keeps, what field() leaves. */
public final class EdgeBoxTest {
    private static final Check check = new Check();
    private static final int MIN = Integer.MIN_VALUE;
    private static final int MAX = Integer.MAX_VALUE;
    private static final String FIELD = "size 5 by 2;sand 2;heap 1 1 3;grass 3 1;wind east 2 south 1;stick 9 5;draw 8;";

    public static void main(String[] args) {
        boxesZeroToTwo();
        backOfNothing();
        keptApart();
        allIsAsItWasKept();
        noActsAreKeptThen();
        imageIsNoAct();
        boxOfNowAndAgain();
        fieldEmptiesBoxes();
        fieldBeginsAnew();
        aboutLimits();
        aboutActs();
        check.finish("EdgeBoxTest");
    }

    /** "are kept in a BOX 0 .. 2: all slabs; NONE if there is none such". */
    private static void boxesZeroToTwo() {
        SandMarch x = Check.fieldOf(FIELD);
        for (int box : new int[] {-1, 3, 4, MIN, MAX}) {
            check.due("image(" + box + ")", x.image(box), -1);
            check.due("back(" + box + ")", x.back(box), -1);
        }
        for (int box = 0; box < 3; box++) {
            check.due("image(" + box + ")", x.image(box), 23);
            check.due("back(" + box + ")", x.back(box), 23);
            x.put(0, 1);
            check.due("back(" + box + ")", x.back(box), 23);
        }
        SandMarch bare = Check.fieldOf("sand 0;");
        check.due("no slab at all", bare.image(0), 0);
        check.due("is kept all the same", bare.back(0), 0);
        SandMarch full = Check.fieldOf("size 12 by 8;sand 9;" + "heap 0 0 50;".repeat(20));
        check.due("all slabs", full.image(2), 1864);
    }

    /** "NONE, doing nothing, if nothing was, or there is no such BOX". */
    private static void backOfNothing() {
        for (int kept = 0; kept < 3; kept++) {
            SandMarch x = Check.fieldOf(FIELD);
            x.image(kept);
            x.put(0, 1);
            for (int box = 0; box < 3; box++) {
                if (box != kept) {
                    check.due("back(" + box + ")", x.back(box), -1);
                    check.due("as it is", x.all(0), 24);
                    check.due("the act is kept", x.about(12), 1);
                    check.due("no shift", x.shift(box, 0), -1);
                    check.due("no fates", x.fates(box, 1, 0), -1);
                    check.due("none follows", x.follows(box, 1, 0), -1);
                }
            }
            check.due("back(" + kept + ")", x.back(kept), 23);
        }
    }

    private static void keptApart() {
        SandMarch x = Check.fieldOf(FIELD);
        x.image(0);
        x.put(0, 1);
        x.image(1);
        x.put(9, 4);
        x.image(2);
        int[] slabs = {23, 24, 28};
        for (int box : new int[] {2, 0, 1, 1, 2, 0}) {
            check.due("back(" + box + ")", x.back(box), slabs[box]);
            check.due("all(0)", x.all(0), slabs[box]);
            x.take(x.cell(1, 0) > 0 ? 1 : 0);
            x.blow(3);
        }
        x.image(1);
        check.due("kept anew", x.back(1), 22);
        check.due("the others stay", x.back(0), 23);
        check.due("the others stay", x.back(2), 28);
    }

    /** "HEIGHTS, grass, rules, the SEED, TRIES are kept"; "All is as it was kept". */
    private static void allIsAsItWasKept() {
        for (int box = 0; box < 3; box++) {
            int kept = box;
            Asked once = new Asked(() -> {
                SandMarch x = changed();
                x.image(kept);
                x.back(kept);
                return x;
            });
            Asked later = new Asked(() -> {
                SandMarch x = changed();
                x.image(kept);
                x.blow(31);
                x.put(3, 7);
                x.take(4);
                x.sow(2, false);
                x.sow(0, true);
                x.sow(8, true);
                x.turn(0, 1);
                x.turn(1, 1);
                x.turn(2, 2);
                x.turn(3, 3);
                x.undo();
                x.back(kept);
                return x;
            });
            check.due("as it was kept: " + once.differs(later), once.differs(later) == null, true);
        }
    }

    private static SandMarch changed() {
        SandMarch x = Check.fieldOf(FIELD);
        x.blow(7);
        x.put(5, 3);
        x.sow(2, true);
        x.sow(8, false);
        x.turn(0, 3);
        x.turn(1, 4);
        x.turn(2, 12);
        x.turn(3, 1);
        return x;
    }

    private static void noActsAreKeptThen() {
        SandMarch x = changed();
        x.image(0);
        x.undo();
        x.undo();
        check.due("six to undo", x.about(12), 6);
        check.due("two to redo", x.about(13), 2);
        check.due("back(0)", x.back(0), 26);
        check.due("none to undo", x.about(12), 0);
        check.due("none to redo", x.about(13), 0);
        String heights = Check.heights(x);
        check.due("undo()", x.undo(), false);
        check.due("redo()", x.redo(), false);
        check.dueHeights("as it was kept", x, heights);
        x.put(0, 1);
        check.due("one to undo", x.about(12), 1);
        check.due("undo()", x.undo(), true);
        check.dueHeights("as it was kept", x, heights);
        check.due("no more", x.undo(), false);
    }

    private static void imageIsNoAct() {
        SandMarch x = changed();
        x.undo();
        x.image(0);
        check.due("seven to undo", x.about(12), 7);
        check.due("one to redo", x.about(13), 1);
        check.due("redo()", x.redo(), true);
        check.due("stick on bare ground", x.about(9), 1);
        check.due("what was kept stays as it was", x.back(0), 26);
        check.due("stick on bare ground as kept", x.about(9), 5);
    }

    /** A BOX is of its own: neither acts nor undo change it. */
    private static void boxOfNowAndAgain() {
        SandMarch x = Check.fieldOf(FIELD);
        x.put(0, 2);
        x.image(0);
        x.undo();
        check.due("now", x.all(0), 23);
        check.due("the box", x.shift(0, 2), 23);
        check.due("back(0)", x.back(0), 25);
        x.take(0);
        check.due("the box again", x.back(0), 25);
    }

    /** "BOXES are empty then"; at a FAULT they stay. */
    private static void fieldEmptiesBoxes() {
        SandMarch x = Check.fieldOf(FIELD);
        for (int box = 0; box < 3; box++) {
            x.image(box);
        }
        Check.tell(x, "hop 7;");
        check.due("a fault", x.field(), -1);
        for (int box = 0; box < 3; box++) {
            check.due("back(" + box + ") behind a fault", x.back(box), 23);
        }
        Check.tell(x, FIELD);
        check.due("the same field again", x.field(), 10);
        for (int box = 0; box < 3; box++) {
            check.due("back(" + box + ")", x.back(box), -1);
            check.due("shift(" + box + ", 2)", x.shift(box, 2), -1);
            check.due("fates(" + box + ", 1, 0)", x.fates(box, 1, 0), -1);
            check.due("follows(" + box + ", 1, 0)", x.follows(box, 1, 0), -1);
        }
    }

    /** "(SETTLED, TRIES 0, the SEED as told, no ACTS are kept, nothing is SEEN, BOXES are empty then; the TIME stays)". */
    private static void fieldBeginsAnew() {
        Asked fresh = new Asked(() -> {
            SandMarch x = Check.fieldOf(FIELD);
            x.later(6);
            return x;
        });
        Asked used = new Asked(() -> {
            SandMarch x = changed();
            x.later(6);
            x.seen(3, 3, 3, true);
            x.untell(0);
            x.image(1);
            x.undo();
            Check.tell(x, "size 12 by 8;sand 0;grass 11 7;hop 6;shadow 9;slope 9;stick 0 0;draw 5;wind north 99;" + "heap 0 0 1;");
            x.field();
            x.blow(9);
            x.image(2);
            x.ask(50, 0, 6);
            x.tallest(9, 0);
            x.flux(11, 9);
            x.shift(2, 0);
            x.crests(0);
            Check.tell(x, FIELD);
            x.field();
            return x;
        });
        check.due("as a new object: " + fresh.differs(used), fresh.differs(used) == null, true);
        SandMarch x = Check.fieldOf(FIELD);
        check.due("the tape is empty then", x.about(16), 0);
        check.due("field() again", x.field(), 32);
    }

    /** "What 0: columns .. 16: bytes on the TAPE. NONE for another what." */
    private static void aboutLimits() {
        SandMarch x = Check.fieldOf("size 12 by 8;sand 9;grass 0 0;grass 11 7;wind east 99 west 1;hop 6;shadow 9;slope 9;stick 16 0;"
                + "draw 9999;");
        x.later(1000);
        x.seen(0, 0, 0, true);
        x.put(0, 1);
        x.put(0, 1);
        x.put(0, 1);
        x.undo();
        x.feed(0, 0, 0, 0, 0);
        int[] want = {12, 8, 96, 9999, 0, 6, 9, 9, 16, 0, 2, 100, 2, 1, 1, 1000, 20};
        for (int what = 0; what < 17; what++) {
            check.due("about(" + what + ")", x.about(what), want[what]);
        }
        for (int what : new int[] {-1, 17, 18, MIN, MAX}) {
            check.due("about(" + what + ")", x.about(what), -1);
        }
        SandMarch least = Check.fieldOf("size 3 by 1;sand 0;hop 1;shadow 1;slope 1;stick 0 16;draw 0;wind north 1;");
        int[] small = {3, 1, 3, 0, 0, 1, 1, 1, 0, 16, 0, 1, 0, 0, 0, 0, 0};
        for (int what = 0; what < 17; what++) {
            check.due("least about(" + what + ")", least.about(what), small[what]);
        }
    }

    /** TRIES and SEED go on with each try, and back with it. */
    private static void aboutActs() {
        SandMarch x = Check.fieldOf("size 3 by 1;sand 0;draw 5;");
        x.blow(500);
        check.due("tries", x.about(4), 500);
        check.due("seed", x.about(3), Draws.behind(5, 500));
        x.blow(1);
        check.due("tries", x.about(4), 501);
        x.undo();
        check.due("tries", x.about(4), 500);
        check.due("seed", x.about(3), Draws.behind(5, 500));
        x.undo();
        check.due("tries", x.about(4), 0);
        check.due("seed", x.about(3), 5);
        x.redo();
        check.due("tries", x.about(4), 500);
        check.due("seed", x.about(3), Draws.behind(5, 500));
    }
}
