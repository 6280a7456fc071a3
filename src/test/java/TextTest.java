/** Promises 1 to 5: a new object, feed, end, field, fault. */
public final class TextTest {
    private static final Check check = new Check();

    public static void main(String[] args) {
        newObject();
        feeding();
        ending();
        telling();
        defaults();
        tokens();
        standing();
        toldAlready();
        numbers();
        atTheEnd();
        edgesOfTheText();
        settling();
        faultLeavesAllElse();
        newFieldForgets();
        check.finish("TextTest");
    }

    private static void fault(String text, int which, int place) {
        check.dueFault(text, which, place);
    }

    private static void good(String text) {
        check.dueGood(text);
    }

    private static void newObject() {
        SandMarch x = new SandMarch();
        check.due("NONE", SandMarch.NONE, -1);
        int[] want = {8, 4, 32, 0, 0, 2, 2, 2, 10, 6, 0, 1, 0, 0, 0, 0, 0};
        for (int what = 0; what < want.length; what++) {
            check.due("new about(" + what + ")", x.about(what), want[what]);
        }
        for (int cell = 0; cell < 32; cell++) {
            check.due("new cell(" + cell + ", 0)", x.cell(cell, 0), 3);
        }
        check.due("new fault(0)", x.fault(0), 0);
        check.due("new fault(1)", x.fault(1), -1);
        check.due("fault(2)", x.fault(2), -1);
        check.due("fault(-1)", x.fault(-1), -1);
        check.due("undo()", x.undo(), false);
        check.due("redo()", x.redo(), false);
        check.due("wind(0)", x.wind(0), 0);
    }

    private static void feeding() {
        SandMarch x = new SandMarch();
        for (int i = 1; i <= 45; i++) {
            check.due("feed " + i, x.feed(538976288, 538976288, 538976288, 538976288, 538976288), 20 * i);
        }
        check.due("feed 46", x.feed(0, 0, 0, 0, 0), -1);
        check.due("about(16)", x.about(16), 900);
        check.due("900 blanks are a field", x.field(), 32);
        check.due("tape is empty", x.about(16), 0);
        check.due("feed again", x.feed(0, 0, 0, 0, 0), 20);
        x.end(0);
        for (int i = 1; i <= 44; i++) {
            x.feed(0, 0, 0, 0, 0);
        }
        check.due("end(881)", x.end(881), -1);
        check.due("feed up to 900", x.feed(0, 0, 0, 0, 0), 900);
        check.due("end(881)", x.end(881), 881);
        check.due("feed beyond 900", x.feed(0, 0, 0, 0, 0), -1);
        check.due("about(16)", x.about(16), 881);
        check.due("end(880)", x.end(880), 880);
        check.due("feed up to 900", x.feed(0, 0, 0, 0, 0), 900);
        // bytes above 127 come whole
        SandMarch y = new SandMarch();
        y.feed(0x20202080, -1, 0, 0, 0);
        check.due("bytes above 127", y.field(), -1);
        check.due("fault(0)", y.fault(0), 1);
        check.due("fault(1)", y.fault(1), 3);
    }

    private static void ending() {
        SandMarch x = new SandMarch();
        check.due("end(0)", x.end(0), 0);
        check.due("end(1)", x.end(1), -1);
        check.due("end(-1)", x.end(-1), -1);
        x.feed(1, 2, 3, 4, 5);
        check.due("end(21)", x.end(21), -1);
        check.due("about(16)", x.about(16), 20);
        check.due("end(-1)", x.end(-1), -1);
        check.due("end(20)", x.end(20), 20);
        check.due("end(7)", x.end(7), 7);
        check.due("about(16)", x.about(16), 7);
        check.due("end(8)", x.end(8), -1);
        check.due("feed", x.feed(1, 2, 3, 4, 5), 27);
        check.due("end(MIN)", x.end(Integer.MIN_VALUE), -1);
        check.due("end(MAX)", x.end(Integer.MAX_VALUE), -1);
    }

    private static void telling() {
        SandMarch x = Check.fieldOf("size 5 by 3; sand 4; heap 1 2 1; heap 1 2 1; grass 0 0; grass 4 2;"
                + "wind west 2 south 99 east 1; hop 6; shadow 9; slope 7; stick 0 16; draw 9999;");
        int[] want = {5, 3, 15, 9999, 0, 6, 9, 7, 0, 16, 2, 102, 0, 0, 0, 0, 0};
        for (int what = 0; what < want.length; what++) {
            check.due("told about(" + what + ")", x.about(what), want[what]);
        }
        check.dueHeights("told", x, "4 4 4 4 4 4 4 4 4 4 4 6 4 4 4");
        check.due("grass", x.cell(0, 2), 1);
        check.due("grass", x.cell(1, 2), 0);
        check.due("grass", x.cell(14, 2), 1);
        check.due("wind(0)", x.wind(0), 2);
        check.due("wind(2)", x.wind(2), 1);
        check.due("wind(101)", x.wind(101), 0);
        check.due("wind(102)", x.wind(102), 2);
    }

    private static void defaults() {
        SandMarch x = Check.fieldOf("size 12 by 8;");
        int[] want = {12, 8, 96, 0, 0, 2, 2, 2, 10, 6, 0, 1};
        for (int what = 0; what < want.length; what++) {
            check.due("default about(" + what + ")", x.about(what), want[what]);
        }
        check.due("all(0)", x.all(0), 288);
        check.due("wind(0)", x.wind(0), 0);
        check.due("empty text", new SandMarch().field(), 32);
        SandMarch y = Check.fieldOf("heap 7 3 1;");
        check.due("heap on a field of no told size", y.cell(31, 0), 4);
    }

    private static void tokens() {
        good("size3 by 4;sand1;heap1 0 3;");
        good("\n\nsize\n3\nby\n4\n;\n");
        good("wind east1 south2;");
        good("sand 0003;draw 0000;");
        fault("\tsand 1;", 1, 0);
        fault("sand\t1;", 1, 4);
        fault("sand 1\r;", 1, 6);
        fault("Sand 1;", 1, 0);
        fault("sand -1;", 1, 5);
        fault("sand 1,", 1, 6);
        fault("sand 1;#", 1, 7);
        fault("draw 12345;", 1, 5);
        fault("draw 00001;", 1, 5);
        fault("abcdefghi 1;", 1, 0);
        fault("abcdefgh 1;", 2, 0);
        fault("size 3by 4;", 1, 5);
        fault("size 2by 4;", 1, 5);
        fault("sand 1x;", 1, 5);
        fault("wind east1 south2x", 1, 16);
        fault("wind east1south2;", 1, 9);
    }

    private static void standing() {
        fault(";", 2, 0);
        fault("3", 2, 0);
        fault("by", 2, 0);
        fault("east 3;", 2, 0);
        fault("sands 3;", 2, 0);
        fault("sand;", 2, 4);
        fault("sand sand", 2, 5);
        fault("sand 3 3;", 2, 7);
        fault("sand 3 sand 4;", 2, 7);
        fault("size 3 3;", 2, 7);
        fault("size 3 east 3;", 2, 7);
        fault("size 3 by by", 2, 10);
        fault("sand 1;size 3 by 3;", 2, 7);
        fault("size 3 by 3;size 3 by 3;", 2, 12);
        fault("heap 1 0;", 2, 8);
        fault("heap 1 0 2 3;", 2, 11);
        fault("wind;", 2, 4);
        fault("wind 3;", 2, 5);
        fault("wind size 3;", 2, 5);
        fault("wind east;", 2, 9);
        fault("wind east 1 2;", 2, 12);
        fault("wind east 1 by;", 2, 12);
        fault("stick 3;", 2, 7);
        fault("sand 1;;", 2, 7);
        String heaps = "heap 0 0 1;".repeat(20);
        good(heaps);
        fault(heaps + "heap 0 0 1;", 2, 220);
        fault(heaps + "heap", 2, 220);
        String ways = "wind" + " east 1".repeat(8);
        good(ways + ";");
        fault(ways + " east 1;", 2, 61);
        fault(ways + " east 0;", 2, 61);
    }

    private static void toldAlready() {
        String[] lines = {"sand 1;", "wind east 1;", "hop 1;", "shadow 1;", "slope 1;", "stick 1 1;", "draw 1;"};
        for (String line : lines) {
            fault(line + line, 3, line.length());
            fault(line + "heap 1 1 1;" + line, 3, line.length() + 11);
        }
        fault("sand 1;sand", 3, 7);
        good("heap 1 1 1;heap 1 1 1;");
        good("grass 1 1;grass 1 2;grass 2 1;");
        fault("grass 1 1;grass 1 1;", 3, 18);
        fault("grass 1 1;grass 01 1 x", 3, 19);
        fault("grass 1 1;grass 1 4;", 4, 18);
    }

    private static void numbers() {
        range("size ", 3, 12, " by 1;");
        range("size 3 by ", 1, 8, ";");
        range("sand ", 0, 9, ";");
        range("heap ", 0, 7, " 0 1;");
        range("heap 0 ", 0, 3, " 1;");
        range("heap 0 0 ", 1, 50, ";");
        range("grass ", 0, 7, " 0;");
        range("grass 0 ", 0, 3, ";");
        range("wind east ", 1, 99, ";");
        range("wind east 3 north ", 1, 99, ";");
        range("hop ", 1, 6, ";");
        range("shadow ", 1, 9, ";");
        range("slope ", 1, 9, ";");
        range("stick ", 0, 16, " 3;");
        range("stick 3 ", 0, 16, ";");
        range("draw ", 0, 9999, ";");
        range("size 3 by 1;heap ", 0, 2, " 0 1;");
        range("size 12 by 8;grass ", 0, 11, " 7;");
        range("size 12 by 8;grass 11 ", 0, 7, ";");
        fault("size 2 by 99;", 4, 5);
        fault("size 2 x", 4, 5);
    }

    private static void range(String ahead, int least, int most, String behind) {
        good(ahead + least + behind);
        good(ahead + most + behind);
        if (least > 0) {
            fault(ahead + (least - 1) + behind, 4, ahead.length());
        }
        if (most < 9999) {
            fault(ahead + (most + 1) + behind, 4, ahead.length());
            fault(ahead + 9999 + behind, 4, ahead.length());
        }
    }

    private static void atTheEnd() {
        fault("size", 2, 4);
        fault("size ", 2, 5);
        fault("size 3 by \n ", 2, 12);
        fault("sand 3", 2, 6);
        fault("wind east 3", 2, 11);
        fault("heap 1 1", 2, 8);
    }

    private static void edgesOfTheText() {
        StringBuilder text = new StringBuilder("sand 1;");
        while (text.length() < 899) {
            text.append(' ');
        }
        good(text + " ");
        fault(text + "x", 2, 899);
        good(text.substring(0, 893) + "hop 1;");
        fault(text.substring(0, 894) + "hop  1", 2, 900);
    }

    private static void settling() {
        check.dueHeights("one heap", Check.fieldOf("size 4 by 1;sand 1;heap 1 0 1;slope 1;"), "1 2 1 1");
        // 0 5 0 0 0: cell 1 gives east, then west (lower than the east then), ..
        check.dueHeights("a tall one", Check.fieldOf("size 5 by 1;sand 0;heap 1 0 5;slope 1;"), "1 2 1 1 0");
        // of like ones the first: south comes before west and north
        check.dueHeights("a slab goes south", Check.fieldOf("size 3 by 3;sand 0;heap 1 1 3;heap 2 1 1;slope 2;"),
                "0 0 0 0 2 1 0 1 0");
        SandMarch x = Check.fieldOf("size 12 by 8;sand 9;slope 1;" + "heap 11 7 50;".repeat(20));
        check.due("all slabs", x.all(0), 9 * 96 + 1000);
        check.due("no more than the slope", x.all(4), 1);
    }

    private static void faultLeavesAllElse() {
        SandMarch x = Check.fieldOf("size 4 by 2;draw 7;");
        x.blow(9);
        x.image(1);
        x.seen(0, 1, 3, true);
        x.later(4);
        x.blow(2);
        x.undo();
        int[] want = new int[17];
        for (int what = 0; what < 17; what++) {
            want[what] = x.about(what);
        }
        String heights = Check.heights(x);
        Check.tell(x, "size 5 by 2;grass 1 1;sand 1;sand 2;");
        check.due("a fault", x.field(), -1);
        check.due("fault(0)", x.fault(0), 3);
        check.due("fault(1)", x.fault(1), 29);
        for (int what = 0; what < 17; what++) {
            check.due("behind a fault about(" + what + ")", x.about(what), want[what]);
        }
        check.dueHeights("behind a fault", x, heights);
        check.due("redo()", x.redo(), true);
        check.due("the box is kept", x.back(1) > 0, true);
    }

    private static void newFieldForgets() {
        SandMarch x = Check.fieldOf("size 4 by 2;draw 7;");
        x.blow(9);
        x.blow(9);
        x.undo();
        x.image(1);
        x.seen(0, 1, 9, true);
        x.later(4);
        x.turn(0, 5);
        x.sow(1, true);
        Check.tell(x, "size 6 by 2;draw 8;");
        check.due("field()", x.field(), 12);
        int[] want = {6, 2, 12, 8, 0, 2, 2, 2, 10, 6, 0, 1, 0, 0, 0, 4, 0};
        for (int what = 0; what < 17; what++) {
            check.due("anew about(" + what + ")", x.about(what), want[what]);
        }
        check.due("undo()", x.undo(), false);
        check.due("redo()", x.redo(), false);
        check.due("back(1)", x.back(1), -1);
        check.due("fits(9)", x.fits(9), 50);
        Check.tell(x, "bad");
        x.field();
        check.due("fault(0)", x.fault(0), 2);
        x.field();
        check.due("the latest field()'s fault", x.fault(0), 0);
        check.due("the latest field()'s place", x.fault(1), -1);
    }
}
