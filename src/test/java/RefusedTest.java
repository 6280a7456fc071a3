import java.util.function.Supplier;
import java.util.function.ToLongFunction;

/**
 * A call that is refused answers NONE (or false) and leaves all that can be asked as it was; so does a call that
 * only asks. Each is made of an object in which there is something of everything to be spoiled.
 */
public final class RefusedTest {
    private static final Check check = new Check();
    private static final int MIN = Integer.MIN_VALUE;
    private static final int MAX = Integer.MAX_VALUE;
    private static final String TEXT = "size 5 by 3;sand 2;heap 1 1 4;heap 3 0 3;grass 2 2;wind east 2 south 1 west 1;"
            + "hop 2;shadow 2;slope 2;stick 9 5;draw 77;";
    private static final Supplier<SandMarch> RICH = RefusedTest::rich;
    private static final Asked RICH_ASKED = new Asked(RICH);

    public static void main(String[] args) {
        richHasAll();
        refusedTapes();
        refusedActs();
        refusedUndoes();
        refusedSeens();
        refusedTimes();
        refusedBoxes();
        refusedQuestionsOfNow();
        refusedQuestionsAhead();
        answeredQuestions();
        check.finish("RefusedTest");
    }

    /** Acts that are done and undone, two boxes, SEEN told and untold, a FAULT, a TIME, a TAPE. */
    private static SandMarch rich() {
        SandMarch x = Check.fieldOf(TEXT);
        Check.tell(x, "sand 10;");
        x.field();
        x.blow(11);
        x.image(0);
        x.put(7, 5);
        x.later(3);
        x.seen(4, 2, 3, true);
        x.seen(9, 6, 4, false);
        x.later(2);
        x.untell(0);
        x.take(1);
        x.sow(4, true);
        x.turn(1, 3);
        x.blow(6);
        x.image(2);
        x.put(0, 2);
        x.blow(4);
        x.turn(0, 1);
        x.undo();
        x.undo();
        Check.tell(x, "size 4 by 2;sand 5;draw 9;");
        return x;
    }

    private static void richHasAll() {
        SandMarch x = rich();
        int[] want = {5, 3, 15, x.about(3), 17, 2, 3, 2, 9, 5, 2, 4, 7, 2, 2, 5, 26};
        for (int what = 0; what < want.length; what++) {
            check.due("rich about(" + what + ")", x.about(what), want[what]);
        }
        check.due("rich fault(0)", x.fault(0), 4);
        check.due("rich fault(1)", x.fault(1), 5);
        check.due("fits before, between, behind", x.fits(2) > x.fits(5) && x.fits(5) > x.fits(3), true);
        check.due("many questions", RICH_ASKED.count() > 2000, true);
        check.due("the same again", RICH_ASKED.differs(new Asked(RICH)) == null, true);
        // the questions do see what each act, seen, box, byte changes
        sees("blow", s -> s.blow(1));
        sees("put", s -> s.put(3, 1));
        sees("take", s -> s.take(3));
        sees("sow", s -> s.sow(3, true));
        sees("turn", s -> s.turn(3, 6));
        sees("turn to the same", s -> s.turn(3, 5));
        sees("undo", s -> s.undo() ? 1 : 0);
        sees("redo", s -> s.redo() ? 1 : 0);
        sees("image", s -> s.image(1));
        sees("back", s -> s.back(0));
        sees("seen", s -> s.seen(0, 0, 0, true));
        sees("untell", s -> s.untell(1) ? 1 : 0);
        sees("later", s -> s.later(1));
        sees("feed", s -> s.feed(0, 0, 0, 0, 0));
        sees("end", s -> s.end(25));
    }

    private static void sees(String call, ToLongFunction<SandMarch> made) {
        check.due("a change is seen: " + call, RICH_ASKED.differs(new Asked(() -> behind(RICH, made))) != null, true);
    }

    private static SandMarch behind(Supplier<SandMarch> maker, ToLongFunction<SandMarch> made) {
        SandMarch x = maker.get();
        made.applyAsLong(x);
        return x;
    }

    /** The call answers NONE, and nothing is otherwise behind it. */
    private static void refused(String call, ToLongFunction<SandMarch> made) {
        refused(call, RICH, RICH_ASKED, made);
    }

    private static void refused(String call, Supplier<SandMarch> maker, Asked before, ToLongFunction<SandMarch> made) {
        check.due(call, made.applyAsLong(maker.get()), -1);
        unchanged(call, maker, before, made);
    }

    private static void unchanged(String call, Supplier<SandMarch> maker, Asked before, ToLongFunction<SandMarch> made) {
        String differs = before.differs(new Asked(() -> behind(maker, made)));
        check.due("behind " + call + ": " + differs, differs == null, true);
    }

    private static long number(boolean is) {
        return is ? 1 : -1;
    }

    private static SandMarch withTape(int bytes) {
        SandMarch x = Check.fieldOf(TEXT);
        x.blow(3);
        StringBuilder text = new StringBuilder("size 3 by 2;sand 1;");
        while (text.length() < bytes) {
            text.append(' ');
        }
        Check.tell(x, text.toString());
        return x;
    }

    private static void refusedTapes() {
        for (int bytes : new int[] {881, 882, 899, 900}) {
            Supplier<SandMarch> full = () -> withTape(bytes);
            refused("feed with " + bytes, full, new Asked(full), s -> s.feed(MAX, MIN, -1, 0, 1));
        }
        check.due("feed with 880", withTape(880).feed(0, 0, 0, 0, 0), 900);
        check.due("feed with 879", withTape(879).feed(0, 0, 0, 0, 0), 899);
        for (int n : new int[] {-1, 27, 900, 901, MIN, MAX}) {
            refused("end(" + n + ")", s -> s.end(n));
        }
        unchanged("end(26)", RICH, RICH_ASKED, s -> s.end(26));
        for (int what : new int[] {-1, 2, MIN, MAX}) {
            refused("fault(" + what + ")", s -> s.fault(what));
        }
        faultyFields();
    }

    /** A FAULT takes the TAPE and is told; all else stays. */
    private static void faultyFields() {
        String[] texts = {"#", "sand", "hop 1;hop 2;", "size 12 by 8;sand 9;grass 1 1;wind north 3;hop 7;"};
        Supplier<SandMarch> like = () -> behind(RICH, s -> told(s, "sand 10;"));
        Asked likeAsked = new Asked(like);
        for (String text : texts) {
            SandMarch x = rich();
            check.due("[" + text + "]", told(x, text), -1);
            check.due("[" + text + "] leaves no byte", x.about(16), 0);
            // only number and place of the fault are otherwise, and those are gone behind the next one
            Supplier<SandMarch> both = () -> behind(() -> behind(RICH, s -> told(s, text)), s -> told(s, "sand 10;"));
            String differs = likeAsked.differs(new Asked(both));
            check.due("[" + text + "] and another: " + differs, differs == null, true);
        }
        // and against no fault at all: the tape is empty then
        String differs = new Asked(() -> behind(RICH, s -> s.end(0))).differs(likeAsked);
        check.due("a fault like the one before: " + differs, differs == null, true);
    }

    private static long told(SandMarch x, String text) {
        Check.tell(x, text);
        return x.field();
    }

    private static void refusedActs() {
        for (int n : new int[] {0, -1, 501, 502, MIN, MAX}) {
            refused("blow(" + n + ")", s -> s.blow(n));
        }
        for (int cell : new int[] {-1, 15, 16, MIN, MAX}) {
            refused("put(" + cell + ", 1)", s -> s.put(cell, 1));
            refused("take(" + cell + ")", s -> s.take(cell));
            refused("sow(" + cell + ", true)", s -> s.sow(cell, true));
            refused("sow(" + cell + ", false)", s -> s.sow(cell, false));
        }
        for (int slabs : new int[] {0, -1, 51, MIN, MAX}) {
            refused("put(0, " + slabs + ")", s -> s.put(0, slabs));
        }
        refused("sow(12, true) where grass is", s -> s.sow(12, true));
        refused("sow(4, true) where it was sown", s -> s.sow(4, true));
        refused("sow(0, false) where none is", s -> s.sow(0, false));
        for (int rule : new int[] {-1, 4, 5, MIN, MAX}) {
            refused("turn(" + rule + ", 1)", s -> s.turn(rule, 1));
        }
        int[][] wrong = {{0, 0}, {0, 7}, {1, 0}, {1, 10}, {2, -1}, {2, 17}, {3, -1}, {3, 17}};
        for (int[] w : wrong) {
            refused("turn(" + w[0] + ", " + w[1] + ")", s -> s.turn(w[0], w[1]));
            refused("turn(" + w[0] + ", MIN)", s -> s.turn(w[0], MIN));
            refused("turn(" + w[0] + ", MAX)", s -> s.turn(w[0], MAX));
        }
        Supplier<SandMarch> bare = () -> behind(() -> Check.fieldOf("size 3 by 2;sand 0;heap 1 1 1;"), s -> s.put(0, 1));
        Asked before = new Asked(bare);
        for (int cell : new int[] {1, 2, 3, 5}) {
            refused("take(" + cell + ") of bare ground", bare, before, s -> s.take(cell));
        }
        check.due("take(4)", bare.get().take(4), 0);
    }

    private static void refusedUndoes() {
        Supplier<SandMarch> none = () -> behind(() -> Check.fieldOf(TEXT), s -> s.image(1));
        Asked before = new Asked(none);
        refused("undo() of none", none, before, s -> number(s.undo()));
        refused("redo() of none", none, before, s -> number(s.redo()));
        Supplier<SandMarch> allUndone = () -> behind(RICH, s -> {
            for (int i = 0; i < 7; i++) {
                check.due("undo() " + i, s.undo(), true);
            }
            return 0;
        });
        refused("undo() of all undone", allUndone, new Asked(allUndone), s -> number(s.undo()));
        Supplier<SandMarch> allDone = () -> behind(RICH, s -> {
            check.due("redo()", s.redo(), true);
            check.due("redo()", s.redo(), true);
            return 0;
        });
        refused("redo() of all done", allDone, new Asked(allDone), s -> number(s.redo()));
        Supplier<SandMarch> another = () -> behind(RICH, s -> s.put(3, 1));
        refused("redo() behind another act", another, new Asked(another), s -> number(s.redo()));
    }

    private static SandMarch withTwenty() {
        SandMarch x = rich();
        for (int i = 2; i < 20; i++) {
            x.seen(i, i % 15, 2, i % 3 != 0);
        }
        return x;
    }

    private static void refusedSeens() {
        for (int n : new int[] {-1, 201, 202, MIN, MAX}) {
            refused("seen(" + n + ", 0, 1, true)", s -> s.seen(n, 0, 1, true));
        }
        for (int cell : new int[] {-1, 15, MIN, MAX}) {
            refused("seen(1, " + cell + ", 1, false)", s -> s.seen(1, cell, 1, false));
        }
        for (int h : new int[] {-1, -2, MIN}) {
            refused("seen(1, 0, " + h + ", true)", s -> s.seen(1, 0, h, true));
            refused("seen(1, 0, " + h + ", false)", s -> s.seen(1, 0, h, false));
        }
        Supplier<SandMarch> twenty = RefusedTest::withTwenty;
        check.due("twenty", twenty.get().about(14), 20);
        refused("a 21st", twenty, new Asked(twenty), s -> s.seen(1, 0, 1, true));
        for (int seen : new int[] {-1, 2, 3, 19, 20, MIN, MAX}) {
            refused("untell(" + seen + ")", s -> number(s.untell(seen)));
        }
        refused("untell(0) again", s -> number(s.untell(0)));
        refused("untell(0) again, later", () -> behind(RICH, s -> s.later(1)),
                new Asked(() -> behind(RICH, s -> s.later(1))), s -> number(s.untell(0)));
    }

    private static SandMarch lateOf(int time) {
        SandMarch x = rich();
        int at = x.about(15);
        while (at < time) {
            at = x.later(Math.min(1000, time - at));
        }
        return x;
    }

    private static void refusedTimes() {
        for (int by : new int[] {-1, 1001, 1002, MIN, MAX}) {
            refused("later(" + by + ")", s -> s.later(by));
        }
        check.due("later(1000)", rich().later(1000), 1005);
        unchanged("later(0)", RICH, RICH_ASKED, s -> s.later(0));
        int[][] over = {{99999, 2}, {99001, 1000}, {100000, 1}, {100000, 1000}, {99500, 501}};
        for (int[] o : over) {
            Supplier<SandMarch> late = () -> lateOf(o[0]);
            check.due("late", late.get().about(15), o[0]);
            refused("later(" + o[1] + ") at " + o[0], late, new Asked(late), s -> s.later(o[1]));
            check.due("up to 100,000", late.get().later(100000 - o[0]), 100000);
        }
    }

    private static void refusedBoxes() {
        for (int box : new int[] {-1, 3, 4, MIN, MAX}) {
            refused("image(" + box + ")", s -> s.image(box));
            refused("back(" + box + ")", s -> s.back(box));
        }
        refused("back(1) of nothing", s -> s.back(1));
        check.due("back(0)", rich().back(0) > 0, true);
        check.due("back(2)", rich().back(2) > 0, true);
    }

    private static void refusedQuestionsOfNow() {
        for (int other : new int[] {-1, 17, MIN, MAX}) {
            refused("about(" + other + ")", s -> s.about(other));
            refused("cell(" + other + ", 0)", s -> s.cell(other, 0));
            refused("cell(0, " + other + ")", s -> s.cell(0, other));
            refused("beside(" + other + ", 0)", s -> s.beside(other, 0));
            refused("beside(0, " + other + ")", s -> s.beside(0, other));
            refused("all(" + other + ")", s -> s.all(other));
            refused("skyline(" + other + ", 0)", s -> s.skyline(other, 0));
            refused("skyline(0, " + other + ")", s -> s.skyline(0, other));
            refused("duneOf(1, " + other + ")", s -> s.duneOf(1, other));
            refused("dune(1, " + other + ", 0)", s -> s.dune(1, other, 0));
            refused("dune(1, 0, " + other + ")", s -> s.dune(1, 0, other));
            refused("saddle(0, " + other + ")", s -> s.saddle(0, other));
            refused("saddle(" + other + ", 0)", s -> s.saddle(other, 0));
            refused("crests(" + other + ")", s -> s.crests(other));
            refused("follows(0, 1, " + other + ")", s -> s.follows(0, 1, other));
            refused("fates(0, 1, " + other + ")", s -> s.fates(0, 1, other));
            refused("shift(0, " + other + ")", s -> s.shift(0, other));
        }
        for (int level : new int[] {0, -1, MIN}) {
            refused("dunes(" + level + ")", s -> s.dunes(level));
            refused("dune(" + level + ", 0, 0)", s -> s.dune(level, 0, 0));
            refused("duneOf(" + level + ", 0)", s -> s.duneOf(level, 0));
            refused("parts(" + level + ")", s -> s.parts(level));
            refused("follows(0, " + level + ", 0)", s -> s.follows(0, level, 0));
            refused("fates(0, " + level + ", 0)", s -> s.fates(0, level, 0));
        }
        for (int box : new int[] {-1, 1, 3, MIN, MAX}) {
            refused("follows(" + box + ", 1, 0)", s -> s.follows(box, 1, 0));
            refused("fates(" + box + ", 1, 0)", s -> s.fates(box, 1, 0));
            refused("shift(" + box + ", 0)", s -> s.shift(box, 0));
        }
    }

    private static void refusedQuestionsAhead() {
        for (int n : new int[] {-1, 10000, MIN, MAX}) {
            refused("wind(" + n + ")", s -> s.wind(n));
            refused("game(" + n + ", 1, 0)", s -> s.game(n, 1, 0));
        }
        for (int n : new int[] {-1, 501, MIN, MAX}) {
            refused("would(" + n + ", 0)", s -> s.would(n, 0));
            refused("next(" + n + ", 0)", s -> s.next(n, 0));
            refused("flux(0, " + n + ")", s -> s.flux(0, n));
            refused("game(1, " + n + ", 0)", s -> s.game(1, n, 0));
        }
        for (int n : new int[] {-1, 201, MIN, MAX}) {
            refused("tallest(" + n + ", 0)", s -> s.tallest(n, 0));
            refused("ask(" + n + ", 0, 0)", s -> s.ask(n, 0, 0));
        }
        for (int other : new int[] {-1, 15, MIN, MAX}) {
            refused("would(1, " + other + ")", s -> s.would(1, other));
            refused("next(1, " + other + ")", s -> s.next(1, other));
            refused("flux(" + other + ", 1)", s -> s.flux(other, 1));
            refused("game(1, 1, " + other + ")", s -> s.game(1, 1, other));
            refused("tallest(1, " + other + ")", s -> s.tallest(1, other));
            refused("ask(1, " + other + ", 0)", s -> s.ask(1, other, 0));
            refused("lands(" + other + ", 0, 1, 0)", s -> s.lands(other, 0, 1, 0));
            refused("lands(7, " + other + ", 1, 0)", s -> s.lands(7, other, 1, 0));
            refused("lands(7, 0, " + other + ", 0)", s -> s.lands(7, 0, other, 0));
            refused("lands(7, 0, 1, " + other + ")", s -> s.lands(7, 0, 1, other));
        }
        for (int i : new int[] {-1, 50, MIN, MAX}) {
            refused("fit(" + i + ", 0)", s -> s.fit(i, 0));
        }
        check.due("lands(7, 0, 1, 1)", rich().lands(7, 0, 1, 1) > 0, true);
        Supplier<SandMarch> noFit = () -> behind(RICH, s -> s.seen(0, 0, 50, true));
        Asked before = new Asked(noFit);
        refused("ask with no fit", noFit, before, s -> s.ask(1, 0, 5));
        refused("fit of no fits", noFit, before, s -> s.fit(0, 5));
        check.due("fits of none", noFit.get().fits(5), 0);
    }

    /** "By what is now; nothing is done", of all that is only asked. */
    private static void answeredQuestions() {
        answered("fault", s -> s.fault(0));
        answered("cell", s -> s.cell(7, 1) + s.cell(7, 4));
        answered("beside", s -> s.beside(7, 1));
        answered("wind", s -> s.wind(9999));
        answered("all", s -> s.all(6));
        answered("skyline", s -> s.skyline(4, 0));
        answered("lands", s -> s.lands(7, 0, 12, 1));
        answered("dunes", s -> s.dunes(3));
        answered("dune", s -> s.dune(2, 0, 5));
        answered("duneOf", s -> s.duneOf(2, 7));
        answered("parts", s -> s.parts(2));
        answered("saddle", s -> s.saddle(3, 6));
        answered("crests", s -> s.crests(2));
        answered("follows", s -> s.follows(0, 2, 0));
        answered("fates", s -> s.fates(2, 2, 0));
        answered("shift", s -> s.shift(0, 2));
        answered("would", s -> s.would(500, 3));
        answered("next", s -> s.next(500, 2));
        answered("flux", s -> s.flux(0, 500));
        answered("game", s -> s.game(9999, 500, 2));
        answered("tallest", s -> s.tallest(200, 1));
        answered("fits", s -> s.fits(3));
        answered("fit", s -> s.fit(0, 3));
        answered("ask", s -> s.ask(200, 1, 3));
        answered("about", s -> s.about(10));
    }

    private static void answered(String call, ToLongFunction<SandMarch> made) {
        unchanged(call, RICH, RICH_ASKED, made);
    }
}
