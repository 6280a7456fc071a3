/** What the tests share: counting wrong answers, and telling a field by a text. */
final class Check {
    private int wrong = 0;
    private int calls = 0;

    void due(String call, long got, long want) {
        calls++;
        if (got != want) {
            wrong++;
            if (wrong <= 40) {
                System.out.println(call + " answered " + got + ", due is " + want);
            }
        }
    }

    void due(String call, boolean got, boolean want) {
        due(call, got ? 1L : 0L, want ? 1L : 0L);
    }

    void finish(String name) {
        System.out.println(name + ": " + calls + " answers, " + wrong + " not as due");
        if (wrong != 0) {
            System.exit(1);
        }
    }

    static int pack(String text, int from) {
        int four = 0;
        for (int i = from; i < from + 4; i++) {
            four = four << 8 | (i < text.length() ? text.charAt(i) & 255 : 0);
        }
        return four;
    }

    /** The tape then holds the text and nothing else. */
    static void tell(SandMarch x, String text) {
        x.end(0);
        for (int i = 0; i < text.length(); i += 20) {
            x.feed(pack(text, i), pack(text, i + 4), pack(text, i + 8), pack(text, i + 12), pack(text, i + 16));
        }
        x.end(text.length());
    }

    static SandMarch fieldOf(String text) {
        SandMarch x = new SandMarch();
        tell(x, text);
        if (x.field() == SandMarch.NONE) {
            throw new IllegalStateException("fault " + x.fault(0) + " at " + x.fault(1) + " in: " + text);
        }
        return x;
    }

    /** The text's fault and its place; 0 at NONE is none. */
    void dueFault(String text, int which, int place) {
        SandMarch x = new SandMarch();
        tell(x, text);
        int answer = x.field();
        String call = "[" + text.replace('\n', '/') + "] ";
        due(call + "field() is NONE", answer == SandMarch.NONE, which != 0);
        due(call + "fault(0)", x.fault(0), which);
        due(call + "fault(1)", x.fault(1), place);
        due(call + "about(16)", x.about(16), 0);
    }

    void dueGood(String text) {
        dueFault(text, 0, SandMarch.NONE);
    }

    static String heights(SandMarch x) {
        StringBuilder all = new StringBuilder();
        int cells = x.about(2);
        for (int cell = 0; cell < cells; cell++) {
            all.append(cell == 0 ? "" : " ").append(x.cell(cell, 0));
        }
        return all.toString();
    }

    void dueHeights(String when, SandMarch x, String want) {
        String got = heights(x);
        calls++;
        if (!got.equals(want)) {
            wrong++;
            System.out.println(when + ": heights " + got + ", due are " + want);
        }
    }
}
