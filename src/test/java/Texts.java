import java.util.ArrayList;
import java.util.Collections;
import java.util.List;
import java.util.Random;

/** Random texts of fields: most without a fault, some with one put in. */
final class Texts {
    private static final String[] WAYS = {"east", "south", "west", "north"};

    private Texts() { }

    static String any(Random random) {
        String text = good(random);
        if (random.nextInt(3) != 0) return text;
        int faults = 1 + random.nextInt(2);
        for (int i = 0; i < faults; i++) text = spoiled(text, random);
        return text.length() > 900 ? text.substring(0, 900) : text;
    }

    static String good(Random random) {
        int columns = 8;
        int rows = 4;
        List<String> lines = new ArrayList<>();
        String size = "";
        if (random.nextInt(5) != 0) {
            columns = 3 + random.nextInt(random.nextBoolean() ? 4 : 10);
            rows = 1 + random.nextInt(random.nextBoolean() ? 3 : 8);
            size = "size " + columns + " by " + rows + ";";
        }
        if (random.nextInt(3) != 0) lines.add("sand " + random.nextInt(random.nextBoolean() ? 2 : 10) + ";");
        int heaps = random.nextInt(random.nextInt(5) == 0 ? 21 : 6);
        for (int i = 0; i < heaps; i++) {
            lines.add("heap " + random.nextInt(columns) + " " + random.nextInt(rows) + " "
                    + (1 + random.nextInt(random.nextBoolean() ? 6 : 50)) + ";");
        }
        List<Integer> cells = new ArrayList<>();
        for (int cell = 0; cell < columns * rows; cell++) cells.add(cell);
        Collections.shuffle(cells, random);
        int greens = random.nextInt(4);
        for (int i = 0; i < greens && i < cells.size(); i++) {
            lines.add("grass " + cells.get(i) % columns + " " + cells.get(i) / columns + ";");
        }
        if (random.nextInt(3) != 0) lines.add(wind(random));
        if (random.nextBoolean()) lines.add("hop " + (1 + random.nextInt(6)) + ";");
        if (random.nextBoolean()) lines.add("shadow " + (1 + random.nextInt(9)) + ";");
        if (random.nextBoolean()) lines.add("slope " + (1 + random.nextInt(9)) + ";");
        if (random.nextBoolean()) lines.add("stick " + random.nextInt(17) + "\n" + random.nextInt(17) + ";");
        if (random.nextBoolean()) lines.add("draw " + random.nextInt(10000) + ";");
        Collections.shuffle(lines, random);
        StringBuilder text = new StringBuilder(size);
        for (String line : lines) text.append(line).append(random.nextInt(4) == 0 ? "\n" : "");
        return text.toString();
    }

    private static String wind(Random random) {
        StringBuilder line = new StringBuilder("wind");
        int ways = 1 + random.nextInt(8);
        for (int i = 0; i < ways; i++) {
            line.append(" ").append(WAYS[random.nextInt(4)]).append(random.nextBoolean() ? " " : "")
                    .append(1 + random.nextInt(random.nextBoolean() ? 3 : 99));
        }
        return line.append(";").toString();
    }

    private static String spoiled(String text, Random random) {
        int at = random.nextInt(text.length() + 1);
        int to = Math.min(text.length(), at + 1 + random.nextInt(4));
        String[] parts = {"9", "0", "10", "99", "1234", "12345", "x", "by", ";", "size ", "size 4 by 4;", "sand 1;",
            "heap 1 0 3;", "grass 1 0;", "grass 1 0;grass 1 0;", "wind east 1;", "hop 0;", "hop 7;", "stick 16 17;",
            "draw 3;", " ", "\n", "\t", "A", "\u00e9", "abcdefgh ", "abcdefghi", "north 3", "sand", "slope 2", "heap 3"};
        String part = parts[random.nextInt(parts.length)];
        switch (random.nextInt(4)) {
            case 0: return text.substring(0, at);
            case 1: return text.substring(0, at) + text.substring(to);
            case 2: return text.substring(0, at) + part + text.substring(to);
            default: return text.substring(0, at) + part + text.substring(at);
        }
    }
}
