import java.util.ArrayList;
import java.util.List;
import java.util.function.Supplier;
import java.util.function.ToLongFunction;

/**
 * All that can be asked of an object, in one fixed order. Objects are made anew again and again, because one is
 * used for at most 512 calls, and because some questions (undo, back, field ..) change what they ask about.
 */
final class Asked {
    private static final int QUESTIONS_OF_ONE = 250;
    private static final int[] TIMES = {Integer.MIN_VALUE, -1, 0, 1, 2, 3, 4, 5, 6, 7, 99999, Integer.MAX_VALUE};

    private final Supplier<SandMarch> maker;
    private final List<String> questions = new ArrayList<>();
    private final List<Long> answers = new ArrayList<>();
    private SandMarch x;
    private int left = 0;

    Asked(Supplier<SandMarch> maker) {
        this.maker = maker;
        askAbout();
        askCells();
        askDunes();
        askBoxes();
        askAhead();
        askSeen();
        askTape();
        askHistory();
    }

    /** The first question that the other one answers otherwise; null if there is none. */
    String differs(Asked other) {
        int count = Math.max(questions.size(), other.questions.size());
        for (int i = 0; i < count; i++) {
            String mine = i < questions.size() ? questions.get(i) + " is " + answers.get(i) : "no question";
            String its = i < other.questions.size() ? other.questions.get(i) + " is " + other.answers.get(i) : "no question";
            if (!mine.equals(its)) {
                return mine + " against " + its;
            }
        }
        return null;
    }

    int count() {
        return questions.size();
    }

    private void note(String question, long answer) {
        questions.add(question);
        answers.add(answer);
    }

    private void ask(String question, ToLongFunction<SandMarch> asking) {
        if (left == 0) {
            x = maker.get();
            left = QUESTIONS_OF_ONE;
        }
        left--;
        note(question, asking.applyAsLong(x));
    }

    private int first(ToLongFunction<SandMarch> asking) {
        return (int) asking.applyAsLong(maker.get());
    }

    private void askAbout() {
        for (int i = 0; i <= 16; i++) {
            int what = i;
            ask("about " + what, s -> s.about(what));
        }
        for (int i = 0; i <= 6; i++) {
            int what = i;
            ask("all " + what, s -> s.all(what));
        }
        ask("fault", s -> s.fault(0));
        ask("place", s -> s.fault(1));
        for (int i = 0; i < 40; i++) {
            int n = i;
            ask("wind " + n, s -> s.wind(n));
        }
        ask("wind 9999", s -> s.wind(9999));
    }

    private void askCells() {
        int cells = first(s -> s.about(2));
        for (int i = 0; i < cells; i++) {
            int cell = i;
            for (int j = 0; j < 5; j++) {
                int what = j;
                ask("cell " + cell + " " + what, s -> s.cell(cell, what));
            }
            for (int j = 0; j < 4; j++) {
                int way = j;
                ask("beside " + cell + " " + way, s -> s.beside(cell, way));
            }
            for (int j = 0; j < cells; j++) {
                int other = j;
                ask("saddle " + cell + " " + other, s -> s.saddle(cell, other));
                ask("lands " + cell + " " + other, s -> s.lands(cell, other, 3, 0));
                ask("lands of " + cell + " " + other, s -> s.lands(cell, other, 3, 1));
            }
        }
        for (int i = 0; i < 12; i++) {
            int n = i;
            ask("column " + n, s -> s.skyline(n, 0));
            ask("row " + n, s -> s.skyline(n, 1));
        }
    }

    private void askDunes() {
        int cells = first(s -> s.about(2));
        int top = Math.min(12, first(s -> s.all(1)) + 1);
        for (int i = 1; i <= top; i++) {
            int level = i;
            ask("dunes " + level, s -> s.dunes(level));
            for (int j = 0; j < 3; j++) {
                int dune = j;
                for (int k = 0; k < 7; k++) {
                    int what = k;
                    ask("dune " + level + " " + dune + " " + what, s -> s.dune(level, dune, what));
                }
            }
            for (int j = 0; j < cells; j++) {
                int cell = j;
                ask("duneOf " + level + " " + cell, s -> s.duneOf(level, cell));
            }
        }
        for (int i = 1; i < 6; i++) {
            int n = i;
            ask("parts " + n, s -> s.parts(n));
        }
        for (int i = 0; i < 3; i++) {
            int what = i;
            ask("crests " + what, s -> s.crests(what));
        }
    }

    private void askBoxes() {
        for (int i = 0; i < 3; i++) {
            int box = i;
            for (int j = 0; j < 3; j++) {
                int what = j;
                ask("shift " + box + " " + what, s -> s.shift(box, what));
            }
            for (int j = 1; j < 6; j++) {
                int level = j;
                for (int k = 0; k < 4; k++) {
                    int number = k;
                    ask("fates " + box + " " + level + " " + number, s -> s.fates(box, level, number));
                    ask("follows " + box + " " + level + " " + number, s -> s.follows(box, level, number));
                }
            }
            SandMarch one = maker.get();
            note("back " + box, one.back(box));
            noteState("behind back " + box, one);
        }
    }

    /** All that an act can change. */
    private void noteState(String when, SandMarch one) {
        for (int what = 0; what <= 16; what++) {
            note(when + " about " + what, one.about(what));
        }
        for (int cell = 0; cell < one.about(2) && cell < 96; cell++) {
            note(when + " height " + cell, one.cell(cell, 0));
            note(when + " grass " + cell, one.cell(cell, 2));
        }
    }

    private void askAhead() {
        int cells = first(s -> s.about(2));
        for (int i = 0; i < cells; i++) {
            int cell = i;
            ask("would " + cell, s -> s.would(23, cell));
        }
        for (int i = 0; i < 3; i++) {
            int what = i;
            ask("next " + what, s -> s.next(23, what));
        }
        for (int i = 0; i < 12; i++) {
            int column = i;
            ask("flux " + column, s -> s.flux(column, 23));
        }
        for (int i = 0; i < 4; i++) {
            int what = i;
            ask("game " + what, s -> s.game(8, 23, what));
        }
        ask("tallest", s -> s.tallest(9, 0));
        ask("how tall", s -> s.tallest(9, 1));
    }

    private void askSeen() {
        for (int k : TIMES) {
            ask("fits " + k, s -> s.fits(k));
            ask("ask cell " + k, s -> s.ask(7, 0, k));
            ask("ask left " + k, s -> s.ask(7, 1, k));
            for (int j = 0; j < 50; j++) {
                int i = j;
                ask("fit " + i + " " + k, s -> s.fit(i, k));
            }
        }
        SandMarch one = maker.get();
        note("the next seen", one.seen(1, 0, 1, true));
        for (int seen = 0; seen < 20; seen++) {
            note("untell " + seen, one.untell(seen) ? 1 : 0);
        }
        note("later", one.later(0));
    }

    /** What the tape holds shows when it is made the field. */
    private void askTape() {
        SandMarch one = maker.get();
        note("field", one.field());
        note("its fault", one.fault(0));
        note("its place", one.fault(1));
        noteState("told anew", one);
    }

    private void askHistory() {
        SandMarch one = maker.get();
        boolean more = true;
        for (int i = 0; i < 21 && more; i++) {
            more = one.undo();
            note("undo " + i, more ? 1 : 0);
            noteSand("behind undo " + i, one);
        }
        SandMarch other = maker.get();
        more = true;
        for (int i = 0; i < 21 && more; i++) {
            more = other.redo();
            note("redo " + i, more ? 1 : 0);
            noteSand("behind redo " + i, other);
        }
    }

    /** Few calls: an object with twenty acts is asked this often. */
    private void noteSand(String when, SandMarch one) {
        for (int what = 3; what <= 10; what++) {
            note(when + " about " + what, one.about(what));
        }
        note(when + " all 0", one.all(0));
        note(when + " all 5", one.all(5));
        for (int cell = 0; cell < 6; cell++) {
            note(when + " height " + cell, one.cell(cell, 0));
        }
    }
}
