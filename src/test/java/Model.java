import java.util.ArrayDeque;
import java.util.ArrayList;
import java.util.Arrays;
import java.util.Deque;
import java.util.HashMap;
import java.util.HashSet;
import java.util.List;
import java.util.Map;
import java.util.Set;
import java.math.BigInteger;

/**
 * The document once more, word for word and without regard to cost: what SandMarch answers is held against it.
 * It has SandMarch's face, and shares no code with it.
 */
public final class Model {
    private static final int NONE = -1;
    private static final List<String> WAYS = List.of("east", "south", "west", "north");
    private static final int[] DC = {1, 0, -1, 0};
    private static final int[] DR = {0, 1, 0, -1};

    private static final class State {
        int[][] high;
        boolean[][] grass;
        int hop, shadow, sand, bare, seed, tries;

        State copy() {
            State s = new State();
            s.high = Arrays.stream(high).map(int[]::clone).toArray(int[][]::new);
            s.grass = Arrays.stream(grass).map(boolean[]::clone).toArray(boolean[][]::new);
            s.hop = hop;
            s.shadow = shadow;
            s.sand = sand;
            s.bare = bare;
            s.seed = seed;
            s.tries = tries;
            return s;
        }
    }

    private static final class Fault extends RuntimeException {
        final int which;
        final int place;

        Fault(int which, int place) {
            super(null, null, false, false);
            this.which = which;
            this.place = place;
        }
    }

    private static final class Told {
        int n, cell, h, at, until = NONE;
        boolean is;
    }

    private record Move(int fromColumn, int fromRow, int way) { }

    private StringBuilder tape = new StringBuilder();
    private int faultWhich = 0;
    private int faultPlace = NONE;
    private int columns, rows, slope;
    private List<Integer> round = new ArrayList<>();
    private State told, now;
    private Deque<State> before = new ArrayDeque<>();
    private Deque<State> behind = new ArrayDeque<>();
    private State[] boxes = new State[3];
    private List<Told> seens = new ArrayList<>();
    private int time = 0;

    // counted while TRIES are made
    private int idle, hops, slides;
    private final Map<Integer, Integer> through = new HashMap<>();

    public Model() {
        parse("");
    }

    // ---- text

    public int feed(int a, int b, int c, int d, int e) {
        if (tape.length() + 20 > 900) return NONE;
        for (int v : new int[] {a, b, c, d, e})
            for (int i = 3; i >= 0; i--) tape.append((char) (v >>> 8 * i & 255));
        return tape.length();
    }

    public int end(int n) {
        if (n < 0 || n > tape.length()) return NONE;
        tape.setLength(n);
        return n;
    }

    public int field() {
        String text = tape.toString();
        tape = new StringBuilder();
        faultWhich = 0;
        faultPlace = NONE;
        try {
            parse(text);
        } catch (Fault f) {
            faultWhich = f.which;
            faultPlace = f.place;
            return NONE;
        }
        return columns * rows;
    }

    public int fault(int what) {
        return what == 0 ? faultWhich : what == 1 ? faultPlace : NONE;
    }

    private String text;
    private int at;

    /** The place of the next token (the text's length if there is none). */
    private int ahead() {
        while (at < text.length() && (text.charAt(at) == ' ' || text.charAt(at) == '\n')) at++;
        return at;
    }

    private String look() {
        int from = ahead();
        if (from == text.length()) return "";
        String rest = text.substring(from);
        String run = rest.replaceFirst("(?s)^([a-z]+|[0-9]+|;|).*$", "$1");
        if (run.isEmpty() || run.matches("[a-z]{9,}") || run.matches("[0-9]{5,}")) throw new Fault(1, from);
        if (Character.isDigit(run.charAt(0)) && rest.length() > run.length()
                && "abcdefghijklmnopqrstuvwxyz".indexOf(rest.charAt(run.length())) >= 0) throw new Fault(1, from);
        return run;
    }

    private void need(String token) {
        if (!look().equals(token)) throw new Fault(2, at);
        at += token.length();
    }

    private int number(int low, int high) {
        String token = look();
        if (!token.matches("[0-9]+")) throw new Fault(2, at);
        int v = Integer.parseInt(token);
        if (v < low || v > high) throw new Fault(4, at);
        at += token.length();
        return v;
    }

    private void parse(String whole) {
        text = whole;
        at = 0;
        int c = 8, r = 4, base = 3, steep = 2, heaps = 0;
        State s = new State();
        s.hop = 2;
        s.shadow = 2;
        s.sand = 10;
        s.bare = 6;
        List<Integer> winds = new ArrayList<>(List.of(0));
        int[][] more = new int[8][12];
        boolean[][] green = new boolean[8][12];
        Set<String> had = new HashSet<>();
        boolean first = true;
        while (ahead() < text.length()) {
            String word = look();
            int place = at;
            if (!List.of("size", "sand", "heap", "grass", "wind", "hop", "shadow", "slope", "stick", "draw")
                    .contains(word)) throw new Fault(2, place);
            if (word.equals("size") && !first) throw new Fault(2, place);
            if (word.equals("heap") && heaps == 20) throw new Fault(2, place);
            if (!word.equals("heap") && !word.equals("grass") && !had.add(word)) throw new Fault(3, place);
            first = false;
            at += word.length();
            switch (word) {
                case "size" -> {
                    c = number(3, 12);
                    need("by");
                    r = number(1, 8);
                }
                case "sand" -> base = number(0, 9);
                case "heap" -> {
                    int x = number(0, c - 1), y = number(0, r - 1);
                    more[y][x] += number(1, 50);
                    heaps++;
                }
                case "grass" -> {
                    int x = number(0, c - 1);
                    int rowPlace = ahead();
                    int y = number(0, r - 1);
                    if (green[y][x]) throw new Fault(3, rowPlace);
                    green[y][x] = true;
                }
                case "wind" -> {
                    winds.clear();
                    int ways = 0;
                    do {
                        int way = WAYS.indexOf(look());
                        if (way < 0 || ways == 8) throw new Fault(2, at);
                        at += look().length();
                        int times = number(1, 99);
                        for (int i = 0; i < times; i++) winds.add(way);
                        ways++;
                    } while (!look().equals(";"));
                }
                case "hop" -> s.hop = number(1, 6);
                case "shadow" -> s.shadow = number(1, 9);
                case "slope" -> steep = number(1, 9);
                case "stick" -> {
                    s.sand = number(0, 16);
                    s.bare = number(0, 16);
                }
                default -> s.seed = number(0, 9999);
            }
            need(";");
        }
        columns = c;
        rows = r;
        slope = steep;
        round = winds;
        s.high = new int[r][c];
        s.grass = new boolean[r][c];
        for (int y = 0; y < r; y++)
            for (int x = 0; x < c; x++) {
                s.high[y][x] = base + more[y][x];
                s.grass[y][x] = green[y][x];
            }
        settle(s);
        now = s;
        told = s.copy();
        before.clear();
        behind.clear();
        boxes = new State[3];
        seens.clear();
    }

    // ---- what sand does

    private int col(int x) {
        return Math.floorMod(x, columns);
    }

    private int row(int y) {
        return Math.floorMod(y, rows);
    }

    private int height(State s, int x, int y) {
        return s.high[row(y)][col(x)];
    }

    private void settle(State s) {
        boolean again = true;
        while (again) {
            again = false;
            search:
            for (int y = 0; y < rows; y++)
                for (int x = 0; x < columns; x++) {
                    int low = Integer.MAX_VALUE, way = 0;
                    for (int w = 3; w >= 0; w--)
                        if (height(s, x + DC[w], y + DR[w]) <= low) {
                            low = height(s, x + DC[w], y + DR[w]);
                            way = w;
                        }
                    if (s.high[y][x] - low > slope) {
                        s.high[y][x]--;
                        s.high[row(y + DR[way])][col(x + DC[way])]++;
                        again = true;
                        break search;
                    }
                }
        }
    }

    private void moved(Move m) {
        if (m.way == 0) through.merge(col(m.fromColumn + 1), 1, Integer::sum);
        if (m.way == 2) through.merge(m.fromColumn, -1, Integer::sum);
    }

    private void fill(State s, int x, int y) {
        int best = NONE;
        for (int w = 0; w < 4; w++)
            if (best == NONE || height(s, x + DC[w], y + DR[w]) > height(s, x + DC[best], y + DR[best])) best = w;
        int fx = col(x + DC[best]), fy = row(y + DR[best]);
        if (s.high[fy][fx] - s.high[y][x] <= slope) return;
        s.high[fy][fx]--;
        s.high[y][x]++;
        slides++;
        moved(new Move(fx, fy, (best + 2) % 4));
        fill(s, fx, fy);
    }

    private void spill(State s, int x, int y) {
        int best = NONE;
        for (int w = 0; w < 4; w++)
            if (best == NONE || height(s, x + DC[w], y + DR[w]) < height(s, x + DC[best], y + DR[best])) best = w;
        int tx = col(x + DC[best]), ty = row(y + DR[best]);
        if (s.high[y][x] - s.high[ty][tx] <= slope) return;
        s.high[y][x]--;
        s.high[ty][tx]++;
        slides++;
        moved(new Move(x, y, best));
        spill(s, tx, ty);
    }

    private boolean shadow(State s, int x, int y, int way) {
        int around = way % 2 == 0 ? columns : rows;
        for (int k = 1; k <= around - 1; k++)
            if (height(s, x - k * DC[way], y - k * DR[way]) - height(s, x, y) >= k * s.shadow) return true;
        return false;
    }

    private int windOf(int tries) {
        return round.get(tries % round.size());
    }

    private int draw(State s, int m) {
        s.seed = (s.seed * 137 + 71) % 10007;
        return s.seed % m;
    }

    private boolean takes(State s, int x, int y, int way) {
        return s.high[y][x] != 0 && !s.grass[y][x] && !shadow(s, x, y, way);
    }

    private void tries(State s, int n) {
        idle = 0;
        hops = 0;
        slides = 0;
        through.clear();
        for (int i = 0; i < n; i++) {
            int way = windOf(s.tries);
            s.tries++;
            int cell = draw(s, columns * rows);
            int x = cell % columns, y = cell / columns;
            if (!takes(s, x, y, way)) {
                idle++;
                continue;
            }
            s.high[y][x]--;
            fill(s, x, y);
            for (int hop = 1; ; hop++) {
                for (int k = 0; k < s.hop; k++) {
                    moved(new Move(x, y, way));
                    x = col(x + DC[way]);
                    y = row(y + DR[way]);
                }
                hops++;
                if (shadow(s, x, y, way) || hop == 20) break;
                if (draw(s, 16) < (s.high[y][x] == 0 ? s.bare : s.sand)) break;
            }
            s.high[y][x]++;
            spill(s, x, y);
        }
    }

    // ---- cells

    private boolean is(int cell) {
        return cell >= 0 && cell < columns * rows;
    }

    private int of(State s, int cell) {
        return s.high[cell / columns][cell % columns];
    }

    private boolean crest(int cell) {
        int x = cell % columns, y = cell / columns, w = windOf(now.tries);
        int own = height(now, x, y);
        return own != 0 && own >= height(now, x - DC[w], y - DR[w]) && own > height(now, x + DC[w], y + DR[w]);
    }

    public int cell(int cell, int what) {
        if (!is(cell)) return NONE;
        int x = cell % columns, y = cell / columns;
        switch (what) {
            case 0: return of(now, cell);
            case 1: return shadow(now, x, y, windOf(now.tries)) ? 1 : 0;
            case 2: return now.grass[y][x] ? 1 : 0;
            case 3:
                int low = of(now, cell);
                for (int w = 0; w < 4; w++) low = Math.min(low, of(now, beside(cell, w)));
                return of(now, cell) - low;
            case 4: return crest(cell) ? 1 : 0;
            default: return NONE;
        }
    }

    public int beside(int cell, int way) {
        if (!is(cell) || way < 0 || way > 3) return NONE;
        return row(cell / columns + DR[way]) * columns + col(cell % columns + DC[way]);
    }

    public int wind(int n) {
        return n < 0 || n > 9999 ? NONE : windOf(now.tries + n);
    }

    // ---- acts

    private void act(State was) {
        before.push(was);
        while (before.size() > 20) before.removeLast();
        behind.clear();
    }

    public int blow(int n) {
        if (n < 1 || n > 500) return NONE;
        State was = now.copy();
        tries(now, n);
        act(was);
        return n - idle;
    }

    public int put(int cell, int slabs) {
        if (!is(cell) || slabs < 1 || slabs > 50) return NONE;
        State was = now.copy();
        for (int i = 0; i < slabs; i++) {
            now.high[cell / columns][cell % columns]++;
            spill(now, cell % columns, cell / columns);
        }
        act(was);
        return of(now, cell);
    }

    public int take(int cell) {
        if (!is(cell) || of(now, cell) == 0) return NONE;
        State was = now.copy();
        now.high[cell / columns][cell % columns]--;
        fill(now, cell % columns, cell / columns);
        act(was);
        return of(now, cell);
    }

    public int sow(int cell, boolean is) {
        if (!is(cell) || now.grass[cell / columns][cell % columns] == is) return NONE;
        State was = now.copy();
        now.grass[cell / columns][cell % columns] = is;
        act(was);
        return about(10);
    }

    public int turn(int rule, int v) {
        if (rule < 0 || rule > 3) return NONE;
        if (rule == 0 && (v < 1 || v > 6) || rule == 1 && (v < 1 || v > 9) || rule > 1 && (v < 0 || v > 16)) return NONE;
        State was = now.copy();
        int old = about(rule < 2 ? 5 + rule : 6 + rule);
        if (rule == 0) now.hop = v;
        if (rule == 1) now.shadow = v;
        if (rule == 2) now.sand = v;
        if (rule == 3) now.bare = v;
        act(was);
        return old;
    }

    public boolean undo() {
        if (before.isEmpty()) return false;
        behind.push(now);
        now = before.pop();
        return true;
    }

    public boolean redo() {
        if (behind.isEmpty()) return false;
        before.push(now);
        now = behind.pop();
        return true;
    }

    // ---- all

    public int all(int what) {
        int slabs = 0, most = 0, bare = 0, dark = 0, difference = 0, sum = 0, ready = 0;
        for (int cell = 0; cell < columns * rows; cell++) {
            int own = of(now, cell);
            slabs += own;
            most = Math.max(most, own);
            bare += own == 0 ? 1 : 0;
            dark += cell(cell, 1);
            for (int w = 0; w < 4; w++) difference = Math.max(difference, Math.abs(own - of(now, beside(cell, w))));
            for (int w = 0; w < 2; w++) sum += Math.abs(own - of(now, beside(cell, w)));
            if (own > 0 && cell(cell, 1) == 0 && cell(cell, 2) == 0) ready++;
        }
        int[] answers = {slabs, most, bare, dark, difference, sum, ready};
        return what < 0 || what > 6 ? NONE : answers[what];
    }

    public int skyline(int n, int what) {
        if (what != 0 && what != 1 || n < 0 || n >= (what == 0 ? columns : rows)) return NONE;
        int most = 0;
        for (int cell = 0; cell < columns * rows; cell++)
            if ((what == 0 ? cell % columns : cell / columns) == n) most = Math.max(most, of(now, cell));
        return most;
    }

    public long lands(int cell, int to, int n, int part) {
        if (!is(cell) || !is(to) || n < 1 || n > 12 || part < 0 || part > 1) return NONE;
        int way = windOf(now.tries);
        if (!takes(now, cell % columns, cell / columns, way)) return NONE;
        State s = now.copy();
        s.high[cell / columns][cell % columns]--;
        fill(s, cell % columns, cell / columns);
        BigInteger upper = BigInteger.ZERO;
        BigInteger lower = BigInteger.valueOf(16).pow(n);
        int x = cell % columns, y = cell / columns;
        BigInteger on = lower;
        for (int hop = 1; hop <= n; hop++) {
            x = col(x + s.hop * DC[way]);
            y = row(y + s.hop * DR[way]);
            int stick = shadow(s, x, y, way) ? 16 : s.high[y][x] == 0 ? s.bare : s.sand;
            BigInteger down = on.multiply(BigInteger.valueOf(stick)).divide(BigInteger.valueOf(16));
            if (y * columns + x == to) upper = upper.add(down);
            on = on.subtract(down);
        }
        BigInteger g = upper.gcd(lower);
        return (part == 0 ? upper : lower).divide(g).longValueExact();
    }

    // ---- dunes

    private List<Set<Integer>> dunesOf(State s, int level) {
        List<Set<Integer>> found = new ArrayList<>();
        Set<Integer> done = new HashSet<>();
        for (int cell = 0; cell < columns * rows; cell++) {
            if (of(s, cell) < level || done.contains(cell)) continue;
            Set<Integer> one = new HashSet<>();
            Deque<Integer> open = new ArrayDeque<>(List.of(cell));
            while (!open.isEmpty()) {
                int c = open.pop();
                if (of(s, c) < level || !one.add(c)) continue;
                for (int w = 0; w < 4; w++) open.push(beside(c, w));
            }
            done.addAll(one);
            found.add(one);
        }
        return found;
    }

    public int dunes(int level) {
        return level < 1 ? NONE : dunesOf(now, level).size();
    }

    public int dune(int level, int dune, int what) {
        if (level < 1) return NONE;
        List<Set<Integer>> all = dunesOf(now, level);
        if (dune < 0 || dune >= all.size()) return NONE;
        Set<Integer> one = all.get(dune);
        int high = one.stream().mapToInt(c -> of(now, c)).max().getAsInt();
        switch (what) {
            case 0: return one.stream().mapToInt(c -> c).min().getAsInt();
            case 1: return one.size();
            case 2: return one.stream().mapToInt(c -> of(now, c)).sum();
            case 3: return high;
            case 4: return one.stream().mapToInt(c -> c).filter(c -> of(now, c) == high).min().getAsInt();
            case 5: return (int) one.stream().map(c -> c % columns).distinct().count();
            case 6: return (int) one.stream().map(c -> c / columns).distinct().count();
            default: return NONE;
        }
    }

    public int duneOf(int level, int cell) {
        if (level < 1 || !is(cell)) return NONE;
        List<Set<Integer>> all = dunesOf(now, level);
        for (int i = 0; i < all.size(); i++) if (all.get(i).contains(cell)) return i;
        return NONE;
    }

    public int parts(int n) {
        if (n < 1) return NONE;
        for (int level = 1; level <= all(1); level++) if (dunes(level) >= n) return level;
        return NONE;
    }

    public int saddle(int one, int other) {
        if (!is(one) || !is(other)) return NONE;
        for (int level = all(1); level >= 1; level--)
            for (Set<Integer> d : dunesOf(now, level)) if (d.contains(one) && d.contains(other)) return level;
        return 0;
    }

    public int crests(int what) {
        List<Set<Integer>> lines = new ArrayList<>();
        Set<Integer> done = new HashSet<>();
        for (int cell = 0; cell < columns * rows; cell++) {
            if (!crest(cell) || done.contains(cell)) continue;
            Set<Integer> one = new HashSet<>();
            Deque<Integer> open = new ArrayDeque<>(List.of(cell));
            while (!open.isEmpty()) {
                int c = open.pop();
                if (!crest(c) || !one.add(c)) continue;
                for (int dx = -1; dx <= 1; dx++)
                    for (int dy = -1; dy <= 1; dy++)
                        open.push(row(c / columns + dy) * columns + col(c % columns + dx));
            }
            done.addAll(one);
            lines.add(one);
        }
        Set<Integer> longest = Set.of();
        for (Set<Integer> line : lines) if (line.size() > longest.size()) longest = line;
        switch (what) {
            case 0: return lines.size();
            case 1: return longest.size();
            case 2: return longest.stream().mapToInt(c -> c).min().orElse(NONE);
            default: return NONE;
        }
    }

    private boolean keeps(int box) {
        return box >= 0 && box < 3 && boxes[box] != null;
    }

    private static int common(Set<Integer> a, Set<Integer> b) {
        Set<Integer> both = new HashSet<>(a);
        both.retainAll(b);
        return both.size();
    }

    public int follows(int box, int level, int dune) {
        if (!keeps(box) || level < 1) return NONE;
        List<Set<Integer>> ones = dunesOf(now, level), olds = dunesOf(boxes[box], level);
        if (dune < 0 || dune >= ones.size()) return NONE;
        int best = NONE, most = 0;
        for (int i = olds.size() - 1; i >= 0; i--) {
            int c = common(ones.get(dune), olds.get(i));
            if (c > 0 && c >= most) {
                most = c;
                best = i;
            }
        }
        return best;
    }

    public int fates(int box, int level, int what) {
        if (!keeps(box) || level < 1 || what < 0 || what > 3) return NONE;
        List<Set<Integer>> ones = dunesOf(now, level), olds = dunesOf(boxes[box], level);
        List<Set<Integer>> from = what == 0 || what == 3 ? ones : olds;
        List<Set<Integer>> with = what == 0 || what == 3 ? olds : ones;
        int count = 0;
        for (Set<Integer> a : from) {
            long met = with.stream().filter(b -> common(a, b) > 0).count();
            if (what < 2 ? met >= 2 : met == 0) count++;
        }
        return count;
    }

    public int shift(int box, int what) {
        if (!keeps(box) || what < 0 || what > 2) return NONE;
        int[] best = {0, 0, -1};
        for (int r = 0; r < rows; r++)
            for (int c = 0; c < columns; c++) {
                int sum = 0;
                for (int y = 0; y < rows; y++)
                    for (int x = 0; x < columns; x++)
                        sum += Math.min(height(now, x, y), height(boxes[box], x - c, y - r));
                if (sum > best[2]) best = new int[] {c, r, sum};
            }
        return best[what];
    }

    // ---- what would be

    private State run(State start, int seed, int n) {
        State s = start.copy();
        s.seed = seed;
        tries(s, n);
        return s;
    }

    public int would(int n, int cell) {
        if (n < 0 || n > 500 || !is(cell)) return NONE;
        return of(run(now, now.seed, n), cell);
    }

    public int next(int n, int what) {
        if (n < 0 || n > 500 || what < 0 || what > 2) return NONE;
        run(now, now.seed, n);
        return new int[] {idle, hops, slides}[what];
    }

    public int flux(int column, int n) {
        if (column < 0 || column >= columns || n < 0 || n > 500) return NONE;
        run(now, now.seed, n);
        return through.getOrDefault(column, 0);
    }

    private int highest(State s) {
        return Arrays.stream(s.high).flatMapToInt(Arrays::stream).max().getAsInt();
    }

    public int game(int seed, int n, int what) {
        if (seed < 0 || seed > 9999 || n < 0 || n > 500 || what < 0 || what > 3) return NONE;
        State s = run(now, seed, n);
        switch (what) {
            case 0: return highest(s);
            case 1: return (int) Arrays.stream(s.high).flatMapToInt(Arrays::stream).filter(h -> h == 0).count();
            case 2: return dunesOf(s, 1).size();
            default: return n - idle;
        }
    }

    public int tallest(int n, int what) {
        if (n < 0 || n > 200 || what < 0 || what > 1) return NONE;
        int best = 0, most = -1;
        for (int seed = 0; seed < 50; seed++) {
            int h = highest(run(now, seed, n));
            if (h > most) {
                most = h;
                best = seed;
            }
        }
        return what == 0 ? best : most;
    }

    // ---- seen

    public int seen(int n, int cell, int h, boolean is) {
        if (n < 0 || n > 200 || !is(cell) || h < 0 || seens.size() == 20) return NONE;
        Told t = new Told();
        t.n = n;
        t.cell = cell;
        t.h = h;
        t.is = is;
        t.at = time;
        seens.add(t);
        return seens.size() - 1;
    }

    public boolean untell(int seen) {
        if (seen < 0 || seen >= seens.size() || seens.get(seen).until != NONE) return false;
        seens.get(seen).until = time;
        return true;
    }

    public int later(int by) {
        if (by < 0 || by > 1000 || time + by > 100000) return NONE;
        return time += by;
    }

    private List<Integer> fitting(int k) {
        List<Integer> seeds = new ArrayList<>();
        for (int seed = 0; seed < 50; seed++) {
            boolean good = true;
            for (Told t : seens) {
                if (t.at > k || t.until != NONE && t.until <= k) continue;
                good &= of(run(told, seed, t.n), t.cell) >= t.h == t.is;
            }
            if (good) seeds.add(seed);
        }
        return seeds;
    }

    public int fits(int k) {
        return fitting(k).size();
    }

    public int fit(int i, int k) {
        List<Integer> seeds = fitting(k);
        return i < 0 || i >= seeds.size() ? NONE : seeds.get(i);
    }

    public int ask(int n, int what, int k) {
        List<Integer> seeds = fitting(k);
        if (n < 0 || n > 200 || what < 0 || what > 1 || seeds.isEmpty()) return NONE;
        List<State> ends = seeds.stream().map(seed -> run(told, seed, n)).toList();
        int best = 0, fewest = 51;
        for (int cell = 0; cell < columns * rows; cell++) {
            Map<Integer, Integer> groups = new HashMap<>();
            for (State s : ends) groups.merge(of(s, cell), 1, Integer::sum);
            int most = groups.values().stream().max(Integer::compare).get();
            if (most < fewest) {
                fewest = most;
                best = cell;
            }
        }
        return what == 0 ? best : fewest;
    }

    // ---- boxes

    public int image(int box) {
        if (box < 0 || box > 2) return NONE;
        boxes[box] = now.copy();
        return all(0);
    }

    public int back(int box) {
        if (!keeps(box)) return NONE;
        now = boxes[box].copy();
        before.clear();
        behind.clear();
        return all(0);
    }

    public int about(int what) {
        int green = 0;
        for (boolean[] line : now.grass) for (boolean g : line) green += g ? 1 : 0;
        int[] answers = {columns, rows, columns * rows, now.seed, now.tries, now.hop, now.shadow, slope, now.sand,
            now.bare, green, round.size(), before.size(), behind.size(), seens.size(), time, tape.length()};
        return what < 0 || what >= answers.length ? NONE : answers[what];
    }
}
