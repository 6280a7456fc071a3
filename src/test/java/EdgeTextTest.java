/** Each sentence of the Terms, part 1, and of promises 1 to 5 that names a limit: at it, below it, above it. */
public final class EdgeTextTest {
    private static final Check check = new Check();
    private static final String LETTERS = "abcdefghijklmnopqrstuvwxyz";

    public static void main(String[] args) {
        emptyAtFirst();
        atMost900Bytes();
        lastByteOf900();
        highestByteFirst();
        everyByteAsALine();
        everyByteAsANumber();
        wordsOfEightLetters();
        wordsOfTheDocument();
        numbersOfOneToFourDigits();
        blanksPartOrNot();
        asLongAsCanBe();
        noLetterBehindANumber();
        sizeIsTheFirstLine();
        numbersOfSize();
        numbersOfSand();
        numbersOfHeap();
        numbersOfGrass();
        numbersOfWind();
        numbersOfRules();
        twentyHeaps();
        grassOnceEach();
        grassEverywhere();
        eightWays();
        onceEach();
        firstByPlace();
        placeOfTheEnd();
        atOnePlaceTheLeast();
        tokensThatCantStand();
        latestFault();
        check.finish("EdgeTextTest");
    }

    private static void bad(String text, int which, int place) {
        check.dueFault(text, which, place);
    }

    private static void good(String text) {
        check.dueGood(text);
    }

    private static String padded(String text, int length) {
        return text + " ".repeat(length - text.length());
    }

    /** "empty at first"; "An empty FIELD (8 by 4, 3 high)". */
    private static void emptyAtFirst() {
        SandMarch x = new SandMarch();
        check.due("no byte", x.about(16), 0);
        check.due("end(0)", x.end(0), 0);
        check.due("end(1)", x.end(1), -1);
        Asked made = new Asked(SandMarch::new);
        Asked told = new Asked(() -> Check.fieldOf(""));
        check.due("new as the empty text: " + made.differs(told), made.differs(told) == null, true);
        Asked wordy = new Asked(() -> Check.fieldOf("size 8 by 4;sand 3;wind east 1;hop 2;shadow 2;slope 2;stick 10 6;draw 0;"));
        check.due("as if all were told: " + made.differs(wordy), made.differs(wordy) == null, true);
    }

    /** "NONE, and nothing comes, if there would be more than 900." */
    private static void atMost900Bytes() {
        for (int bytes : new int[] {0, 1, 860, 879, 880, 881, 899, 900}) {
            SandMarch x = new SandMarch();
            Check.tell(x, " ".repeat(bytes));
            boolean fits = bytes <= 880;
            check.due("feed with " + bytes, x.feed(0, 0, 0, 0, 0), fits ? bytes + 20 : -1);
            check.due("bytes then", x.about(16), fits ? bytes + 20 : bytes);
        }
    }

    private static void lastByteOf900() {
        for (int length : new int[] {898, 899, 900}) {
            String blanks = " ".repeat(length - 6);
            good(blanks + "hop 3;");
            SandMarch x = Check.fieldOf(blanks + "hop 3;");
            check.due("hop at the end of " + length, x.about(5), 3);
            bad(blanks + "hop 3 ", 2, length);
            bad(blanks + "hop 3#", 1, length - 1);
            bad(blanks + "hop 3x", 1, length - 2);
            bad(blanks + "hop 37", 4, length - 2);
            bad(blanks + "   siz", 2, length - 3);
            bad(blanks + "  wind", 2, length);
            bad(blanks + "shadow", 2, length);
        }
        // as many TOKENS as there can be
        bad(";".repeat(900), 2, 0);
        bad("sand 3;" + ";".repeat(893), 2, 7);
        bad("#".repeat(900), 1, 0);
        bad("a".repeat(900), 1, 0);
        bad("1".repeat(900), 1, 0);
    }

    /** "Twenty bytes come behind those on the TAPE, of each number the highest first". */
    private static void highestByteFirst() {
        String text = "draw 1234;hop 3;shadow 4;slope 5;sand 6;";
        SandMarch x = Check.fieldOf(text);
        int[][] want = {{3, 1234}, {5, 3}, {6, 4}, {7, 5}};
        for (int[] w : want) {
            check.due("about(" + w[0] + ")", x.about(w[0]), w[1]);
        }
        check.due("sand", x.cell(0, 0), 6);
        // a byte that is no token at each of the twenty places
        for (int place = 0; place < 20; place++) {
            for (int b : new int[] {0, 1, 127, 128, 255}) {
                StringBuilder blanks = new StringBuilder(" ".repeat(20));
                blanks.setCharAt(place, (char) b);
                bad(blanks.toString(), 1, place);
            }
        }
        // what was cut off is gone, and what comes then comes behind
        SandMarch y = new SandMarch();
        y.feed(Check.pack("hop ", 0), Check.pack("4;##", 0), -1, -1, -1);
        y.end(6);
        check.due("feed", y.feed(Check.pack("sand", 0), Check.pack(" 7; ", 0), 538976288, 538976288, 538976288), 26);
        check.due("field()", y.field(), 32);
        check.due("hop", y.about(5), 4);
        check.due("sand", y.cell(31, 0), 7);
    }

    /** TOKENS are of a .. z, digits and ; alone; blanks are 32 and 10 alone. */
    private static void everyByteAsALine() {
        for (int b = 0; b < 256; b++) {
            String sign = String.valueOf((char) b);
            boolean blank = b == 32 || b == 10;
            boolean token = b >= 97 && b <= 122 || b >= 48 && b <= 57 || b == 59;
            bad(sign, blank ? 0 : token ? 2 : 1, blank ? -1 : 0);
            bad("hop 3;" + sign, blank ? 0 : token ? 2 : 1, blank ? -1 : 6);
        }
    }

    private static void everyByteAsANumber() {
        for (int b = 0; b < 256; b++) {
            String sign = String.valueOf((char) b);
            boolean blank = b == 32 || b == 10;
            boolean digit = b >= 48 && b <= 57;
            boolean token = b >= 97 && b <= 122 || b == 59;
            bad("sand " + sign + ";", digit ? 0 : blank || token ? 2 : 1, digit ? -1 : blank ? 6 : 5);
            if (digit) {
                check.due("sand " + sign, Check.fieldOf("sand " + sign + ";").cell(0, 0), b - 48);
            }
        }
    }

    /** "words (a .. z, 8 at most)": a ninth letter makes it no TOKEN. */
    private static void wordsOfEightLetters() {
        for (int letters = 1; letters <= 26; letters++) {
            String word = LETTERS.substring(0, letters);
            int which = letters <= 8 ? 2 : 1;
            bad(word, which, 0);
            bad(word + " 1;", which, 0);
            bad("sand " + word, which, 5);
            bad("wind " + word + " 1;", which, 5);
            bad("sand 3;" + word + ";", which, 7);
            bad("size 3 " + word + " 1;", which, 7);
        }
        bad("shadows 1;", 2, 0);
        bad("shadowss 1;", 2, 0);
        bad("shadowsss 1;", 1, 0);
    }

    private static void wordsOfTheDocument() {
        String[] lines = {"size 3 by 1;", "sand 1;", "heap 1 1 1;", "grass 1 1;", "wind east 1;", "hop 1;", "shadow 1;",
            "slope 1;", "stick 1 1;", "draw 1;"};
        for (String line : lines) {
            good(line);
            String word = line.substring(0, line.indexOf(' '));
            String rest = line.substring(word.length());
            bad(word.substring(1) + rest, 2, 0);
            bad(word.substring(0, word.length() - 1) + rest, 2, 0);
            bad(word + "s" + rest, 2, 0);
            bad("s" + word + rest, 2, 0);
        }
        String[] ways = {"east", "south", "west", "north"};
        for (int way = 0; way < 4; way++) {
            SandMarch x = Check.fieldOf("wind " + ways[way] + " 1;");
            check.due("wind " + ways[way], x.wind(0), way);
            bad("wind " + ways[way].substring(1) + " 1;", 2, 5);
            bad("wind " + ways[way].substring(0, 3) + " 1;", 2, 5);
            bad("wind " + ways[way] + "s 1;", 2, 5);
        }
        for (String by : new String[] {"b", "bye", "y", "east", "size"}) {
            bad("size 3 " + by + " 1;", 2, 7);
        }
    }

    /** "N (1 to 4 digits)": a fifth makes it no TOKEN, whatever its value. */
    private static void numbersOfOneToFourDigits() {
        String[] right = {"1", "12", "123", "1234", "0", "00", "000", "0000", "0001", "5678", "9009", "9999"};
        for (String number : right) {
            SandMarch x = Check.fieldOf("draw " + number + ";");
            check.due("draw " + number, x.about(3), Integer.parseInt(number));
        }
        for (String number : new String[] {"00000", "00001", "12345", "99999", "10000", "123456", "0000000000000001"}) {
            bad("draw " + number + ";", 1, 5);
            bad("draw " + number, 1, 5);
            bad("sand 3;draw\n" + number + ";", 1, 12);
            bad(number, 1, 0);
            bad("size 3 by " + number + ";", 1, 10);
            bad("heap " + number + " 1;", 1, 5);
        }
        bad("hop 0006;hop", 3, 9);
        bad("hop 00006;", 1, 4);
    }

    /** "Blanks (32, 10) part them or not". */
    private static void blanksPartOrNot() {
        String dense = "size3 by2;sand2;heap1 1 3;grass2 0;wind east2 south1;hop3;shadow1;slope4;stick3 4;draw5;";
        String wide = "\n size \n 3\n by\n\n2 ; sand 2 ;\nheap 1\n1 3;  grass 2 0; wind  east\n2 \nsouth 1 ;hop\n3;shadow 1;\n"
                + "slope 4;stick  3\n4\n;draw\n5\n;\n ";
        Asked one = new Asked(() -> Check.fieldOf(dense));
        Asked other = new Asked(() -> Check.fieldOf(wide));
        check.due("blanks or not: " + one.differs(other), one.differs(other) == null, true);
        good("size 3 by2;");
        bad("sa nd 3;", 2, 0);
        bad("sand 3 ;h op 3;", 2, 8);
        bad("draw 1 2;", 2, 7);
        bad("heap 11 1;", 4, 5);
        bad("heap 1 11;", 4, 7);
        for (int b : new int[] {9, 11, 12, 13, 31, 33, 160}) {
            bad("sand" + (char) b + "3;", 1, 4);
            bad("sand 3" + (char) b + ";", 1, 6);
        }
    }

    /** "each is as long as can be". */
    private static void asLongAsCanBe() {
        bad("sandhop 3;", 2, 0);
        bad("windeast 1;", 2, 0);
        bad("windsouth 1;", 1, 0);
        bad("size 3 byby 1;", 2, 7);
        check.due("one number of two digits", Check.fieldOf("draw 12;").about(3), 12);
        bad("sand 33;", 4, 5);
        bad("stick 1616;", 4, 6);
        bad("stick 16 16 16;", 2, 12);
        good("stick 16 16;");
        good("sand3;hop3;");
        bad(";;", 2, 0);
    }

    /** "no letter directly behind an N"; any other sign may stand there, as far as the N goes. */
    private static void noLetterBehindANumber() {
        for (char letter = 'a'; letter <= 'z'; letter++) {
            bad("sand 3" + letter + ";", 1, 5);
            bad("sand 3;3" + letter, 1, 7);
        }
        bad("size 3by 1;", 1, 5);
        bad("size 9999by 1;", 1, 5);
        bad("size 12by 1;", 1, 5);
        bad("wind east 1west 1;", 1, 10);
        bad("wind east 1 west 1west", 1, 17);
        bad("heap 1 1 1heap", 1, 9);
        bad("sand 3`;", 1, 6);
        bad("sand 3{;", 1, 6);
        bad("sand 3S;", 1, 6);
        bad("sand 3Z;", 1, 6);
        good("sand 3;hop 3;");
        good("wind east 1\nwest 1;");
        good("size 3 by 1;");
    }

    /** "size is the first line, if it is told" (else FAULT 2 at that word). */
    private static void sizeIsTheFirstLine() {
        good("size 3 by 1;sand 1;");
        good("\n \nsize 3 by 1;");
        good("sand 1;");
        String[] lines = {"sand 1;", "heap 1 1 1;", "grass 1 1;", "wind east 1;", "hop 1;", "shadow 1;", "slope 1;",
            "stick 1 1;", "draw 1;", "size 8 by 4;"};
        for (String line : lines) {
            bad(line + "size 3 by 1;", 2, line.length());
            bad(line + " size 99 by 99", 2, line.length() + 1);
            bad(line + "size", 2, line.length());
        }
    }

    /** A number at its limits, and a step beyond each. */
    private static void limits(String ahead, String behind, int least, int most, int about) {
        for (int v = least; v <= most; v += v < least + 30 || v >= most - 3 ? 1 : 37) {
            SandMarch x = Check.fieldOf(ahead + v + behind);
            check.due(ahead + v + behind + " about(" + about + ")", x.about(about), v);
        }
        check.due(ahead + most, Check.fieldOf(ahead + most + behind).about(about), most);
        outside(ahead, behind, least, most);
    }

    private static void outside(String ahead, String behind, int least, int most) {
        good(ahead + least + behind);
        good(ahead + most + behind);
        if (least > 0) {
            bad(ahead + (least - 1) + behind, 4, ahead.length());
            bad(ahead + "0" + behind, 4, ahead.length());
        }
        if (most < 9999) {
            bad(ahead + (most + 1) + behind, 4, ahead.length());
            bad(ahead + "9999" + behind, 4, ahead.length());
            bad(ahead + (most + 1), 4, ahead.length());
        }
    }

    /** "columns (3 .. 12; 8 if not told) by rows (1 .. 8; 4)". */
    private static void numbersOfSize() {
        limits("size ", " by 2;", 3, 12, 0);
        limits("size 5 by ", ";", 1, 8, 1);
        for (int columns = 3; columns <= 12; columns++) {
            for (int rows = 1; rows <= 8; rows++) {
                SandMarch x = new SandMarch();
                Check.tell(x, "size " + columns + " by " + rows + ";");
                check.due("cells of " + columns + " by " + rows, x.field(), columns * rows);
                check.due("about(2)", x.about(2), columns * rows);
                check.due("the last cell", x.cell(columns * rows - 1, 0), 3);
                check.due("no more", x.cell(columns * rows, 0), -1);
            }
        }
        SandMarch none = Check.fieldOf("sand 1;");
        check.due("8 columns", none.about(0), 8);
        check.due("4 rows", none.about(1), 4);
        SandMarch anew = Check.fieldOf("size 12 by 8;");
        Check.tell(anew, "sand 1;");
        check.due("not told again: 8 by 4", anew.field(), 32);
    }

    /** "sand: how high all CELLS are (0 .. 9; 3)". */
    private static void numbersOfSand() {
        outside("sand ", ";", 0, 9);
        for (int v = 0; v <= 9; v++) {
            SandMarch x = Check.fieldOf("size 4 by 3;sand " + v + ";");
            check.due("sand " + v, x.all(0), 12 * v);
            check.due("all alike", x.all(4), 0);
        }
        check.due("not told", Check.fieldOf("size 4 by 3;").all(0), 36);
    }

    /** "heap, 20 at most: column, row, so much higher (1 .. 50)"; "a column, a row that there is not". */
    private static void numbersOfHeap() {
        outside("heap 0 0 ", ";", 1, 50);
        outside("heap ", " 0 1;", 0, 7);
        outside("heap 0 ", " 1;", 0, 3);
        for (int[] size : new int[][] {{3, 1}, {3, 8}, {12, 1}, {12, 8}, {9, 5}}) {
            String told = "size " + size[0] + " by " + size[1] + ";";
            outside(told + "heap ", " 0 1;", 0, size[0] - 1);
            outside(told + "heap 0 ", " 1;", 0, size[1] - 1);
            int last = size[0] * size[1] - 1;
            SandMarch x = Check.fieldOf(told + "heap " + (size[0] - 1) + " " + (size[1] - 1) + " 1;");
            check.due("the last cell of " + told, x.cell(last, 0), 4);
            check.due("one slab more", x.all(0), 3 * (last + 1) + 1);
            SandMarch y = Check.fieldOf(told + "heap " + (size[0] - 1) + " 0 1;");
            check.due("the last of the first row", y.cell(size[0] - 1, 0), 4);
        }
        for (int v = 1; v <= 50; v++) {
            check.due("heap of " + v, Check.fieldOf("size 5 by 3;sand 0;heap 2 1 " + v + ";").all(0), v);
        }
        check.due("heaps on one cell", Check.fieldOf("sand 0;slope 9;heap 2 1 3;heap 2 1 4;").cell(10, 0), 7);
        check.due("ahead of sand", Check.fieldOf("heap 2 1 3;sand 1;slope 9;").cell(10, 0), 4);
    }

    private static void numbersOfGrass() {
        outside("grass ", " 0;", 0, 7);
        outside("grass 0 ", ";", 0, 3);
        for (int[] size : new int[][] {{3, 1}, {3, 8}, {12, 1}, {12, 8}, {9, 5}}) {
            String told = "size " + size[0] + " by " + size[1] + ";";
            outside(told + "grass ", " 0;", 0, size[0] - 1);
            outside(told + "grass 0 ", ";", 0, size[1] - 1);
            SandMarch x = Check.fieldOf(told + "grass " + (size[0] - 1) + " " + (size[1] - 1) + ";");
            check.due("grass on the last cell", x.cell(size[0] * size[1] - 1, 2), 1);
            check.due("on one cell", x.about(10), 1);
        }
        check.due("not told", new SandMarch().about(10), 0);
    }

    /** "each for so many tries (1 .. 99)"; "(east 1, if not told)". */
    private static void numbersOfWind() {
        limits("wind west ", ";", 1, 99, 11);
        outside("wind west 3 north ", ";", 1, 99);
        outside("wind west 3 north 1 south 2 west 2 west 2 west 2 west 2 east ", ";", 1, 99);
        SandMarch x = Check.fieldOf("hop 3;");
        check.due("not told: a round of 1", x.about(11), 1);
        check.due("not told: east", x.wind(0), 0);
        check.due("not told: east again", x.wind(1), 0);
    }

    /** "hop (1 .. 6; 2), shadow (1 .. 9; 2), slope (1 .. 9; 2), stick (0 .. 16 each; 10, 6), draw (0 .. 9,999; 0)". */
    private static void numbersOfRules() {
        limits("hop ", ";", 1, 6, 5);
        limits("shadow ", ";", 1, 9, 6);
        limits("slope ", ";", 1, 9, 7);
        limits("stick ", " 3;", 0, 16, 8);
        limits("stick 3 ", ";", 0, 16, 9);
        limits("draw ", ";", 0, 9999, 3);
        SandMarch x = Check.fieldOf("sand 1;");
        int[][] untold = {{5, 2}, {6, 2}, {7, 2}, {8, 10}, {9, 6}, {3, 0}};
        for (int[] u : untold) {
            check.due("not told about(" + u[0] + ")", x.about(u[0]), u[1]);
        }
        SandMarch y = Check.fieldOf("hop 6;shadow 9;slope 9;stick 1 2;draw 9;wind north 9 west 5 south 3;");
        Check.tell(y, "");
        y.field();
        for (int[] u : untold) {
            check.due("not told again about(" + u[0] + ")", y.about(u[0]), u[1]);
        }
        check.due("not told again: east", y.wind(0), 0);
        check.due("not told again: a round of 1", y.about(11), 1);
        Check.tell(y, "wind south 2;");
        y.field();
        check.due("one way again", y.about(11), 2);
    }

    /** "heap, 20 at most"; "a heap too many: at that word". */
    private static void twentyHeaps() {
        for (int heaps : new int[] {19, 20}) {
            String text = "heap 7 3 1;".repeat(heaps);
            good(text);
            check.due(heaps + " heaps", Check.fieldOf("sand 0;" + text).all(0), heaps);
            bad(text + ";", 2, text.length());
        }
        String twenty = "heap 7 3 1;".repeat(20);
        bad(twenty + "heap 7 3 1;", 2, 220);
        bad(twenty + "\nheap", 2, 221);
        bad(twenty + "heap 99 99 99;", 2, 220);
        bad("heap 7 3 1;".repeat(19) + "grass 1 1;heap 0 0 1;sand 3;heap 1 1 1;", 2, 237);
        good("heap 7 3 1;".repeat(19) + "grass 1 1;heap 0 0 1;sand 3;");
        StringBuilder many = new StringBuilder("size 12 by 8;sand 0;");
        for (int i = 0; i < 20; i++) {
            many.append("heap ").append(i % 12).append(' ').append(i / 12).append(" 1;");
        }
        check.due("twenty on twenty cells", Check.fieldOf(many.toString()).all(2), 76);
        bad(many + "heap 0 7 1;", 2, many.length());
        SandMarch x = new SandMarch();
        Check.tell(x, twenty);
        x.field();
        Check.tell(x, twenty);
        check.due("twenty in each text", x.field(), 32);
        Check.tell(x, "heap 99 0 0;");
        x.field();
        Check.tell(x, twenty);
        check.due("twenty behind a fault", x.field(), 32);
    }

    /** "grass: column, row (once each)"; "grass: at its row". */
    private static void grassOnceEach() {
        bad("grass 3 2;grass 3 2;", 3, 18);
        bad("grass 3 2;grass 3 \n 2;", 3, 20);
        bad("grass 3 2;grass 3 0002;", 3, 18);
        bad("grass 3 2;sand 1;hop 1;grass 3 2;", 3, 31);
        bad("grass 3 2;grass 3 2", 3, 18);
        bad("grass 3 2;grass 3 2;#", 3, 18);
        good("grass 3 2;grass 2 3;");
        good("grass 3 2;grass 3 1;grass 3 3;grass 2 2;grass 4 2;");
        // cell 11 is column 3 of row 1; column 0 and 7 of one row
        good("grass 3 1;grass 1 3;grass 7 0;grass 0 0;grass 0 1;");
        SandMarch x = new SandMarch();
        Check.tell(x, "grass 3 2;");
        x.field();
        Check.tell(x, "grass 3 2;");
        check.due("once in each text", x.field(), 32);
    }

    private static void grassEverywhere() {
        StringBuilder text = new StringBuilder("size 12 by 8;");
        for (int cell = 0; cell < 96; cell++) {
            text.append("grass").append(cell % 12).append(' ').append(cell / 12).append(';');
        }
        check.due("it fits on the tape", text.length(), 893);
        SandMarch x = Check.fieldOf(text.toString());
        check.due("grass everywhere", x.about(10), 96);
        check.due("nothing can be taken", x.all(6), 0);
        check.due("nothing is", x.blow(500), 0);
    }

    /** "wind: ways .. 8 at most, one behind the other, round and round"; "a way too many: at it". */
    private static void eightWays() {
        for (int ways = 1; ways <= 8; ways++) {
            String text = "wind" + " north 2".repeat(ways);
            good(text + ";");
            SandMarch x = Check.fieldOf(text + " ;");
            check.due(ways + " ways", x.about(11), 2 * ways);
        }
        String eight = "wind" + " north 2".repeat(8);
        bad(eight + " north 2;", 2, 69);
        bad(eight + "\n\nnorth", 2, 70);
        bad(eight + " north 0;", 2, 69);
        bad(eight + " 3;", 2, 69);
        bad(eight, 2, 68);
        SandMarch x = Check.fieldOf("wind east 99 south 99 west 99 north 99 east 99 south 99 west 99 north 99;");
        check.due("the longest round", x.about(11), 792);
        for (int first = 0; first < 2400; first += 99) {
            check.due("the first of a way", x.wind(first), first / 99 % 4);
            check.due("the last of a way", x.wind(first + 98), first / 99 % 4);
        }
        check.due("wind(791)", x.wind(791), 3);
        check.due("wind(792)", x.wind(792), 0);
        check.due("wind(9999)", x.wind(9999), 9999 / 99 % 4);
    }

    /** "All but heap, grass once each"; FAULT 3 "at its word". */
    private static void onceEach() {
        String[] lines = {"sand 1;", "wind east 1;", "hop 1;", "shadow 1;", "slope 1;", "stick 1 1;", "draw 1;"};
        for (String line : lines) {
            String word = line.substring(0, line.indexOf(' '));
            good(line);
            bad(line + line, 3, line.length());
            bad(line + word, 3, line.length());
            bad(line + "\n" + word + " 99 99", 3, line.length() + 1);
            bad("size 3 by 1;" + line + "heap 1 0 1;" + line, 3, 23 + line.length());
            for (String other : lines) {
                if (other != line) {
                    good(line + other);
                    bad(line + other + line, 3, line.length() + other.length());
                }
            }
        }
        good(String.join("", lines) + "heap 1 1 1;heap 1 1 1;grass 1 1;grass 1 2;");
    }

    /** "FAULTS, the first by its place". */
    private static void firstByPlace() {
        bad("sand 10;#", 4, 5);
        bad("#sand 10;", 1, 0);
        bad("hop 1;sand 10;hop 1;", 4, 11);
        bad("hop 1;hop 1;sand 10;", 3, 6);
        bad("hop 1;by;hop 1;", 2, 6);
        bad("size 13 by 9;", 4, 5);
        bad("size 12 by 9;", 4, 11);
        bad("heap 8 4 51;", 4, 5);
        bad("heap 7 4 51;", 4, 7);
        bad("heap 7 3 51;", 4, 9);
        bad("stick 17 17;", 4, 6);
        bad("stick 16 17;", 4, 9);
        bad("wind east 0 north 0;", 4, 10);
        bad("wind east 1 north 0;", 4, 18);
        bad("grass 8 4;", 4, 6);
        bad("grass 7 4;", 4, 8);
        bad("grass 7 3;grass 8 3;", 4, 16);
    }

    /** "the end: the text's length". */
    private static void placeOfTheEnd() {
        String[] cut = {"size", "size 3", "size 3 by", "size 3 by 1", "sand", "sand 1", "heap", "heap 1", "heap 1 1",
            "heap 1 1 1", "grass", "grass 1", "grass 1 1", "wind", "wind east", "wind east 1", "wind east 1 west",
            "wind east 1 west 1", "hop", "hop 1", "shadow", "shadow 1", "slope", "slope 1", "stick", "stick 1",
            "stick 1 1", "draw", "draw 1"};
        for (String text : cut) {
            bad(text, 2, text.length());
            bad(text + " ", 2, text.length() + 1);
            bad(text + "\n \n", 2, text.length() + 3);
            bad(padded(text, 900), 2, 900);
            if (!text.startsWith("size")) {
                bad("size 8 by 4;" + text, 2, text.length() + 12);
            }
        }
        good("");
        good(" ");
        good("hop 1; ");
        bad("hop 1", 2, 5);
    }

    /** "at one place the least". */
    private static void atOnePlaceTheLeast() {
        // told already and behind another line: 2, not 3
        bad("size 8 by 4;size 8 by 4;", 2, 12);
        // no TOKEN where another one should stand, be it too great or told already
        bad("hop 12345;", 1, 4);
        bad("hop 7x;", 1, 4);
        bad("grass 1 1;grass 1 1x;", 1, 18);
        bad("grass 1 1;grass 1 00001;", 1, 18);
        bad("heap 1 1 1;".repeat(20) + "heapheaph", 1, 220);
        bad("wind" + " east 1".repeat(8) + " northnort 1;", 1, 61);
        bad("abcdefghi", 1, 0);
        bad("sand 3 12345;", 1, 7);
    }

    /** FAULT 2 at each place of each line, by each kind of TOKEN that can't stand there. */
    private static void tokensThatCantStand() {
        String[][] lines = {{"size", "3", "by", "1", ";"}, {"sand", "1", ";"}, {"heap", "1", "1", "1", ";"},
            {"grass", "1", "1", ";"}, {"wind", "east", "1", ";"}, {"wind", "east", "1", "west", "2", ";"}, {"hop", "1", ";"},
            {"shadow", "1", ";"}, {"slope", "1", ";"}, {"stick", "1", "1", ";"}, {"draw", "1", ";"}};
        String[] tokens = {"1", ";", "by", "east", "north", "sand", "size", "abc"};
        for (String[] line : lines) {
            for (int at = 0; at < line.length; at++) {
                StringBuilder ahead = new StringBuilder();
                for (int i = 0; i < at; i++) {
                    ahead.append(line[i]).append(' ');
                }
                for (String token : tokens) {
                    if (!stands(line, at, token)) {
                        bad(ahead + token + " 1;", 2, ahead.length());
                        bad(ahead + token, 2, ahead.length());
                    }
                }
                for (String none : new String[] {"#", "A", "12345", "abcdefghi", "1a", "-1", "1".repeat(9)}) {
                    bad(ahead + none, 1, ahead.length());
                }
            }
        }
    }

    private static boolean stands(String[] line, int at, String token) {
        boolean way = token.equals("east") || token.equals("north");
        if (at == 0) {
            return token.equals("sand") || token.equals("size");
        }
        boolean wayMayStand = line[0].equals("wind") && (at == 1 || at % 2 == 1);
        if (wayMayStand && way) {
            return true;
        }
        boolean number = token.equals("1");
        boolean numberDue = Character.isDigit(line[at].charAt(0));
        return numberDue ? number : token.equals(line[at]) || wayMayStand && at > 1 && token.equals(";");
    }

    /** "Of the latest field() what 0: its FAULT (0), 1: its place (NONE)." */
    private static void latestFault() {
        SandMarch x = new SandMarch();
        check.due("of none: fault(0)", x.fault(0), 0);
        check.due("of none: fault(1)", x.fault(1), -1);
        String[] texts = {"#", "", " ;", "hop 1;hop 1;", "hop 7;", "hop 1;"};
        int[][] want = {{1, 0}, {0, -1}, {2, 1}, {3, 6}, {4, 4}, {0, -1}};
        for (int i = 0; i < texts.length; i++) {
            Check.tell(x, texts[i]);
            check.due("till field() it is the one before", x.fault(0), i == 0 ? 0 : want[i - 1][0]);
            x.field();
            for (int again = 0; again < 2; again++) {
                check.due("[" + texts[i] + "] fault(0)", x.fault(0), want[i][0]);
                check.due("[" + texts[i] + "] fault(1)", x.fault(1), want[i][1]);
            }
            check.due("fault(-1)", x.fault(-1), -1);
            check.due("fault(2)", x.fault(2), -1);
        }
    }
}
