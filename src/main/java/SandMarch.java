import java.util.Arrays;

/**
 * Slabs of sand on a field that goes round both ways, told in a text and carried by a turning wind.
 * Words in capitals in the document have classes or methods of nearly the same names here.
 */
public final class SandMarch {
    public static final int NONE = -1;

    private static final int MAX_BYTES = 900;
    private static final int FEED_BYTES = 20;
    private static final int MAX_COLUMNS = 12;
    private static final int MAX_ROWS = 8;
    private static final int MAX_CELLS = 96;
    private static final int MAX_HEAPS = 20;
    private static final int MAX_WINDS = 8;
    private static final int MAX_ACTS = 20;
    private static final int MAX_SEEN = 20;
    private static final int MAX_HOPS = 20;
    private static final int MAX_HOPS_LANDS = 12;
    private static final int MAX_TRIES = 500;
    private static final int MAX_TRIES_SEEDS = 200;
    private static final int MAX_TRIES_AHEAD = 9999;
    private static final int MAX_SLABS_PUT = 50;
    private static final int MAX_SEED = 9999;
    private static final int MAX_LATER = 1000;
    private static final int MAX_TIME = 100000;
    private static final int BOXES = 3;
    private static final int SEEDS = 50;
    private static final int DRAW_STICK = 16;

    private static final int EAST = 0;
    private static final int WEST = 2;
    private static final int WAYS = 4;

    private static final int RULES = 4;
    private static final int HOP = 0;
    private static final int SHADOW = 1;
    private static final int STICK_SAND = 2;
    private static final int STICK_BARE = 3;
    private static final int[] RULE_LEAST = {1, 1, 0, 0};
    private static final int[] RULE_MOST = {6, 9, 16, 16};

    private static final int END_KIND = 0;
    private static final int WORD_KIND = 1;
    private static final int NUMBER_KIND = 2;
    private static final int SIGN_KIND = 3;
    private static final int NO_KIND = 4;

    private final Tape tape;
    private final Reader reader;
    private final Land land;
    private final Sand told;
    private final Sand now;
    private final Sand probe;
    private final Storm weather;
    private final Storm trial;
    private final History history;
    private final Sightings sightings;
    private final Lumps lumps;
    private final Lumps lumpsThen;
    private final Sand[] boxes;
    private final boolean[] kept;
    private final int[] tally;
    private int time;

    public SandMarch() {
        tape = new Tape();
        reader = new Reader(tape);
        land = new Land();
        told = new Sand();
        now = new Sand();
        probe = new Sand();
        weather = new Storm(land, now);
        trial = new Storm(land, probe);
        history = new History();
        sightings = new Sightings(land, told, probe, trial);
        lumps = new Lumps(land);
        lumpsThen = new Lumps(land);
        boxes = new Sand[BOXES];
        for (int i = 0; i < BOXES; i++) {
            boxes[i] = new Sand();
        }
        kept = new boolean[BOXES];
        tally = new int[MAX_CELLS];
        time = 0;
        adopt(reader.draft);
    }

    // ---- the text

    public int feed(int a, int b, int c, int d, int e) {
        if (tape.length + FEED_BYTES > MAX_BYTES) {
            return NONE;
        }
        tape.append(a);
        tape.append(b);
        tape.append(c);
        tape.append(d);
        tape.append(e);
        return tape.length;
    }

    public int end(int n) {
        if (n < 0 || n > tape.length) {
            return NONE;
        }
        tape.length = n;
        return n;
    }

    public int field() {
        boolean good = reader.read();
        tape.length = 0;
        if (!good) {
            return NONE;
        }
        adopt(reader.draft);
        return land.cells;
    }

    public int fault(int what) {
        switch (what) {
            case 0: return reader.wrong;
            case 1: return reader.wrongPlace;
            default: return NONE;
        }
    }

    private void adopt(Draft draft) {
        land.shape(draft);
        now.begin(draft);
        weather.settle();
        told.copy(now);
        history.forget(now);
        sightings.count = 0;
        for (int box = 0; box < BOXES; box++) {
            kept[box] = false;
        }
    }

    // ---- cells

    public int cell(int cell, int what) {
        if (!land.has(cell)) {
            return NONE;
        }
        switch (what) {
            case 0: return now.heights[cell];
            case 1: return weather.shaded(cell, windNow()) ? 1 : 0;
            case 2: return now.grass[cell];
            case 3: return steepness(cell);
            case 4: return weather.isCrest(cell, windNow()) ? 1 : 0;
            default: return NONE;
        }
    }

    public int beside(int cell, int way) {
        if (!land.has(cell) || way < 0 || way >= WAYS) {
            return NONE;
        }
        return land.neighbour(cell, way);
    }

    public int wind(int n) {
        if (n < 0 || n > MAX_TRIES_AHEAD) {
            return NONE;
        }
        return land.windAt(now.tries + n);
    }

    private int windNow() {
        return land.windAt(now.tries);
    }

    private int steepness(int cell) {
        int most = 0;
        for (int way = 0; way < WAYS; way++) {
            int higher = now.heights[cell] - now.heights[land.neighbour(cell, way)];
            most = Math.max(most, higher);
        }
        return most;
    }

    // ---- acts

    public int blow(int n) {
        if (n < 1 || n > MAX_TRIES) {
            return NONE;
        }
        int busy = weather.blowOn(n);
        history.add(now);
        return busy;
    }

    public int put(int cell, int slabs) {
        if (!land.has(cell) || slabs < 1 || slabs > MAX_SLABS_PUT) {
            return NONE;
        }
        for (int i = 0; i < slabs; i++) {
            weather.drop(cell);
        }
        history.add(now);
        return now.heights[cell];
    }

    public int take(int cell) {
        if (!land.has(cell) || now.heights[cell] == 0) {
            return NONE;
        }
        weather.lift(cell);
        history.add(now);
        return now.heights[cell];
    }

    public int sow(int cell, boolean is) {
        if (!land.has(cell) || now.grass[cell] == (is ? 1 : 0)) {
            return NONE;
        }
        now.grass[cell] = is ? 1 : 0;
        history.add(now);
        return grassy();
    }

    public int turn(int rule, int v) {
        if (rule < 0 || rule >= RULES || v < RULE_LEAST[rule] || v > RULE_MOST[rule]) {
            return NONE;
        }
        int was = now.rules[rule];
        now.rules[rule] = v;
        history.add(now);
        return was;
    }

    public boolean undo() {
        return history.goBack(now);
    }

    public boolean redo() {
        return history.goOn(now);
    }

    private int grassy() {
        int count = 0;
        for (int cell = 0; cell < land.cells; cell++) {
            count += now.grass[cell];
        }
        return count;
    }

    // ---- the whole field

    public int all(int what) {
        switch (what) {
            case 0: return now.slabs();
            case 1: return now.highest();
            case 2: return now.bareCells(land.cells);
            case 3: return shadedCells();
            case 4: return greatestDifference();
            case 5: return allDifferences();
            case 6: return yieldingCells();
            default: return NONE;
        }
    }

    private int shadedCells() {
        int way = windNow();
        int count = 0;
        for (int cell = 0; cell < land.cells; cell++) {
            if (weather.shaded(cell, way)) {
                count++;
            }
        }
        return count;
    }

    private int greatestDifference() {
        int most = 0;
        for (int cell = 0; cell < land.cells; cell++) {
            most = Math.max(most, steepness(cell));
        }
        return most;
    }

    private int allDifferences() {
        int sum = 0;
        for (int cell = 0; cell < land.cells; cell++) {
            int own = now.heights[cell];
            sum += Math.abs(own - now.heights[land.neighbour(cell, EAST)]);
            sum += Math.abs(own - now.heights[land.neighbour(cell, EAST + 1)]);
        }
        return sum;
    }

    private int yieldingCells() {
        int way = windNow();
        int count = 0;
        for (int cell = 0; cell < land.cells; cell++) {
            if (weather.yields(cell, way)) {
                count++;
            }
        }
        return count;
    }

    public int skyline(int n, int what) {
        boolean column = what == 0;
        int lines = column ? land.columns : land.rows;
        if (what < 0 || what > 1 || n < 0 || n >= lines) {
            return NONE;
        }
        int most = 0;
        for (int cell = 0; cell < land.cells; cell++) {
            int line = column ? land.columnOf[cell] : land.rowOf[cell];
            if (line == n) {
                most = Math.max(most, now.heights[cell]);
            }
        }
        return most;
    }

    // ---- exact chances

    public long lands(int cell, int to, int n, int part) {
        if (!land.has(cell) || !land.has(to) || n < 1 || n > MAX_HOPS_LANDS || part < 0 || part > 1) {
            return NONE;
        }
        int way = windNow();
        if (!weather.yields(cell, way)) {
            return NONE;
        }
        probe.copy(now);
        trial.lift(cell);
        int at = cell;
        long upper = 0;
        long lower = 1;
        long flying = 1;
        for (int hop = 1; hop <= n; hop++) {
            at = trial.hopOn(at, way);
            int stick = trial.shaded(at, way) ? DRAW_STICK : probe.stickAt(at);
            upper = upper * DRAW_STICK + (at == to ? flying * stick : 0);
            lower = lower * DRAW_STICK;
            flying = flying * (DRAW_STICK - stick);
        }
        return lowestTerms(upper, lower, part);
    }

    /** The lower part is a power of two, so halving both is enough. */
    private static long lowestTerms(long upper, long lower, int part) {
        long up = upper;
        long low = lower;
        for (int i = 0; i < 64 && low > 1 && (up & 1) == 0; i++) {
            up = up / 2;
            low = low / 2;
        }
        return part == 0 ? up : low;
    }

    // ---- dunes and crests

    public int dunes(int level) {
        if (level < 1) {
            return NONE;
        }
        lumps.joinLevel(now.heights, level);
        return lumps.count;
    }

    public int dune(int level, int dune, int what) {
        if (level < 1 || what < 0 || what > 6) {
            return NONE;
        }
        lumps.joinLevel(now.heights, level);
        if (dune < 0 || dune >= lumps.count) {
            return NONE;
        }
        switch (what) {
            case 0: return lumps.firstCell(dune);
            case 1: return lumps.size(dune);
            case 2: return slabsOf(dune);
            case 3: return now.heights[peakOf(dune)];
            case 4: return peakOf(dune);
            case 5: return linesOf(dune, land.columnOf);
            default: return linesOf(dune, land.rowOf);
        }
    }

    public int duneOf(int level, int cell) {
        if (level < 1 || !land.has(cell)) {
            return NONE;
        }
        lumps.joinLevel(now.heights, level);
        return lumps.label[cell];
    }

    private int slabsOf(int dune) {
        int sum = 0;
        for (int cell = 0; cell < land.cells; cell++) {
            if (lumps.label[cell] == dune) {
                sum += now.heights[cell];
            }
        }
        return sum;
    }

    private int peakOf(int dune) {
        int peak = 0;
        int most = 0;
        for (int cell = 0; cell < land.cells; cell++) {
            if (lumps.label[cell] == dune && now.heights[cell] > most) {
                most = now.heights[cell];
                peak = cell;
            }
        }
        return peak;
    }

    private int linesOf(int dune, int[] lineOf) {
        Arrays.fill(tally, 0);
        int count = 0;
        for (int cell = 0; cell < land.cells; cell++) {
            if (lumps.label[cell] == dune && tally[lineOf[cell]] == 0) {
                tally[lineOf[cell]] = 1;
                count++;
            }
        }
        return count;
    }

    public int parts(int n) {
        if (n < 1) {
            return NONE;
        }
        int level = 1;
        for (int i = 0; i <= MAX_CELLS; i++) {
            lumps.joinLevel(now.heights, level);
            if (lumps.count >= n) {
                return level;
            }
            int least = leastFrom(level);
            if (least == NONE) {
                return NONE;
            }
            level = least + 1;
        }
        return NONE;
    }

    /** DUNES stay as they are up to the least HEIGHT of a LEVEL, so levels between can be passed over. */
    private int leastFrom(int level) {
        int least = NONE;
        for (int cell = 0; cell < land.cells; cell++) {
            int height = now.heights[cell];
            if (height >= level && (least == NONE || height < least)) {
                least = height;
            }
        }
        return least;
    }

    public int saddle(int one, int other) {
        if (!land.has(one) || !land.has(other)) {
            return NONE;
        }
        int level = Math.min(now.heights[one], now.heights[other]);
        for (int i = 0; i <= MAX_CELLS && level > 0; i++) {
            lumps.joinLevel(now.heights, level);
            if (lumps.label[one] == lumps.label[other]) {
                return level;
            }
            level = greatestBelow(level);
        }
        return 0;
    }

    private int greatestBelow(int level) {
        int most = 0;
        for (int cell = 0; cell < land.cells; cell++) {
            int height = now.heights[cell];
            if (height < level) {
                most = Math.max(most, height);
            }
        }
        return most;
    }

    public int crests(int what) {
        if (what < 0 || what > 2) {
            return NONE;
        }
        lumps.joinCrests(weather, windNow());
        if (what == 0) {
            return lumps.count;
        }
        int longest = NONE;
        int most = 0;
        for (int line = 0; line < lumps.count; line++) {
            int size = lumps.size(line);
            if (size > most) {
                most = size;
                longest = line;
            }
        }
        return what == 1 ? most : lumps.firstCell(longest);
    }

    // ---- what became of the dunes of a box

    public int follows(int box, int level, int dune) {
        if (!isKept(box) || level < 1) {
            return NONE;
        }
        joinBoth(box, level);
        if (dune < 0 || dune >= lumps.count) {
            return NONE;
        }
        Arrays.fill(tally, 0);
        for (int cell = 0; cell < land.cells; cell++) {
            int then = lumpsThen.label[cell];
            if (lumps.label[cell] == dune && then != NONE) {
                tally[then]++;
            }
        }
        int best = NONE;
        int most = 0;
        for (int then = 0; then < lumpsThen.count; then++) {
            if (tally[then] > most) {
                most = tally[then];
                best = then;
            }
        }
        return best;
    }

    public int fates(int box, int level, int what) {
        if (!isKept(box) || level < 1) {
            return NONE;
        }
        joinBoth(box, level);
        switch (what) {
            case 0: return meetingMany(lumps, lumpsThen);
            case 1: return meetingMany(lumpsThen, lumps);
            case 2: return meetingNone(lumpsThen, lumps);
            case 3: return meetingNone(lumps, lumpsThen);
            default: return NONE;
        }
    }

    private boolean isKept(int box) {
        return box >= 0 && box < BOXES && kept[box];
    }

    private void joinBoth(int box, int level) {
        lumps.joinLevel(now.heights, level);
        lumpsThen.joinLevel(boxes[box].heights, level);
    }

    /** How many lumps of one kind have cells in common with two or more of the other kind. */
    private int meetingMany(Lumps ones, Lumps others) {
        int many = -2;
        int count = 0;
        Arrays.fill(tally, NONE);
        for (int cell = 0; cell < land.cells; cell++) {
            int one = ones.label[cell];
            int other = others.label[cell];
            if (one == NONE || other == NONE || tally[one] == many) {
                continue;
            }
            if (tally[one] == NONE) {
                tally[one] = other;
            } else if (tally[one] != other) {
                tally[one] = many;
                count++;
            }
        }
        return count;
    }

    private int meetingNone(Lumps ones, Lumps others) {
        int met = 0;
        Arrays.fill(tally, 0);
        for (int cell = 0; cell < land.cells; cell++) {
            int one = ones.label[cell];
            if (one != NONE && others.label[cell] != NONE && tally[one] == 0) {
                tally[one] = 1;
                met++;
            }
        }
        return ones.count - met;
    }

    public int shift(int box, int what) {
        if (!isKept(box) || what < 0 || what > 2) {
            return NONE;
        }
        int most = NONE;
        int bestColumns = 0;
        int bestRows = 0;
        for (int south = 0; south < land.rows; south++) {
            for (int east = 0; east < land.columns; east++) {
                int common = overlap(boxes[box].heights, east, south);
                if (common > most) {
                    most = common;
                    bestColumns = east;
                    bestRows = south;
                }
            }
        }
        switch (what) {
            case 0: return bestColumns;
            case 1: return bestRows;
            default: return most;
        }
    }

    private int overlap(int[] heightsThen, int east, int south) {
        int sum = 0;
        for (int cell = 0; cell < land.cells; cell++) {
            int moved = land.moved(cell, east, south);
            sum += Math.min(heightsThen[cell], now.heights[moved]);
        }
        return sum;
    }

    // ---- what would be

    public int would(int n, int cell) {
        if (n < 0 || n > MAX_TRIES || !land.has(cell)) {
            return NONE;
        }
        runTrial(now.seed, n);
        return probe.heights[cell];
    }

    public int next(int n, int what) {
        if (n < 0 || n > MAX_TRIES || what < 0 || what > 2) {
            return NONE;
        }
        int busy = runTrial(now.seed, n);
        switch (what) {
            case 0: return n - busy;
            case 1: return trial.hops;
            default: return trial.slides;
        }
    }

    public int flux(int column, int n) {
        if (column < 0 || column >= land.columns || n < 0 || n > MAX_TRIES) {
            return NONE;
        }
        runTrial(now.seed, n);
        return trial.crossings[column];
    }

    public int game(int seed, int n, int what) {
        if (seed < 0 || seed > MAX_SEED || n < 0 || n > MAX_TRIES || what < 0 || what > 3) {
            return NONE;
        }
        int busy = runTrial(seed, n);
        switch (what) {
            case 0: return probe.highest();
            case 1: return probe.bareCells(land.cells);
            case 2:
                lumps.joinLevel(probe.heights, 1);
                return lumps.count;
            default: return busy;
        }
    }

    public int tallest(int n, int what) {
        if (n < 0 || n > MAX_TRIES_SEEDS || what < 0 || what > 1) {
            return NONE;
        }
        int best = 0;
        int most = NONE;
        for (int seed = 0; seed < SEEDS; seed++) {
            runTrial(seed, n);
            int highest = probe.highest();
            if (highest > most) {
                most = highest;
                best = seed;
            }
        }
        return what == 0 ? best : most;
    }

    private int runTrial(int seed, int n) {
        trial.startFrom(now, seed);
        return trial.blowOn(n);
    }

    // ---- what was seen

    public int seen(int n, int cell, int h, boolean is) {
        if (n < 0 || n > MAX_TRIES_SEEDS || !land.has(cell) || h < 0 || sightings.count >= MAX_SEEN) {
            return NONE;
        }
        return sightings.tell(sightings.seedsFor(n, cell, h, is), time);
    }

    public boolean untell(int seen) {
        return sightings.takeBack(seen, time);
    }

    public int later(int by) {
        if (by < 0 || by > MAX_LATER || time + by > MAX_TIME) {
            return NONE;
        }
        time += by;
        return time;
    }

    public int fits(int k) {
        return Long.bitCount(sightings.fitting(k));
    }

    public int fit(int i, int k) {
        if (i < 0) {
            return NONE;
        }
        long fitting = sightings.fitting(k);
        int passed = 0;
        for (int seed = 0; seed < SEEDS; seed++) {
            if (Sightings.holds(fitting, seed)) {
                if (passed == i) {
                    return seed;
                }
                passed++;
            }
        }
        return NONE;
    }

    public int ask(int n, int what, int k) {
        if (n < 0 || n > MAX_TRIES_SEEDS || what < 0 || what > 1) {
            return NONE;
        }
        long fitting = sightings.fitting(k);
        if (fitting == 0) {
            return NONE;
        }
        sightings.survey(n, fitting);
        int best = 0;
        int fewest = SEEDS + 1;
        for (int cell = 0; cell < land.cells; cell++) {
            int left = sightings.mostAlike(cell, fitting);
            if (left < fewest) {
                fewest = left;
                best = cell;
            }
        }
        return what == 0 ? best : fewest;
    }

    // ---- images

    public int image(int box) {
        if (box < 0 || box >= BOXES) {
            return NONE;
        }
        boxes[box].copy(now);
        kept[box] = true;
        return now.slabs();
    }

    public int back(int box) {
        if (!isKept(box)) {
            return NONE;
        }
        now.copy(boxes[box]);
        history.forget(now);
        return now.slabs();
    }

    public int about(int what) {
        switch (what) {
            case 0: return land.columns;
            case 1: return land.rows;
            case 2: return land.cells;
            case 3: return now.seed;
            case 4: return now.tries;
            case 5: return now.rules[HOP];
            case 6: return now.rules[SHADOW];
            case 7: return land.slope;
            case 8: return now.rules[STICK_SAND];
            case 9: return now.rules[STICK_BARE];
            case 10: return grassy();
            case 11: return land.round;
            case 12: return history.done;
            case 13: return history.undone;
            case 14: return sightings.count;
            case 15: return time;
            case 16: return tape.length;
            default: return NONE;
        }
    }

    /** What a text tells, before it is known to be free of faults. */
    private static final class Draft {
        int columns;
        int rows;
        int base;
        int slope;
        int seed;
        int heaps;
        int winds;
        int linesTold;
        final int[] rules = new int[RULES];
        final int[] added = new int[MAX_CELLS];
        final int[] grass = new int[MAX_CELLS];
        final int[] ways = new int[MAX_WINDS];
        final int[] spans = new int[MAX_WINDS];

        Draft() {
            clear();
        }

        void clear() {
            columns = 8;
            rows = 4;
            base = 3;
            slope = 2;
            seed = 0;
            heaps = 0;
            linesTold = 0;
            rules[HOP] = 2;
            rules[SHADOW] = 2;
            rules[STICK_SAND] = 10;
            rules[STICK_BARE] = 6;
            Arrays.fill(added, 0);
            Arrays.fill(grass, 0);
            winds = 1;
            ways[0] = EAST;
            spans[0] = 1;
        }

        boolean isTold(int line) {
            return (linesTold >> line & 1) == 1;
        }

        void setTold(int line) {
            linesTold |= 1 << line;
        }
    }

    /** The TAPE and its TOKENS; the last TOKEN is always the end. */
    private static final class Tape {
        /** In the order of their numbers, with a blank behind each. */
        private static final String WORDS =
                "size sand heap grass wind hop shadow slope stick draw east south west north by ";
        private static final int WORD_LETTERS = 8;
        private static final int NUMBER_DIGITS = 4;

        final int[] bytes = new int[MAX_BYTES];
        int length = 0;
        final int[] kinds = new int[MAX_BYTES + 1];
        final int[] places = new int[MAX_BYTES + 1];
        /** Of a word its number (NONE if it is unknown), of an N its value. */
        final int[] values = new int[MAX_BYTES + 1];
        private int at = 0;

        void append(int four) {
            for (int bits = 24; bits >= 0 && length < MAX_BYTES; bits -= 8) {
                bytes[length] = four >> bits & 255;
                length++;
            }
        }

        void scan() {
            at = 0;
            for (int token = 0; token <= MAX_BYTES; token++) {
                while (at < length && isBlank(bytes[at])) {
                    at++;
                }
                places[token] = at;
                if (at >= length) {
                    kinds[token] = END_KIND;
                    return;
                }
                scanToken(token, bytes[at]);
            }
        }

        private void scanToken(int token, int first) {
            if (isLetter(first)) {
                scanWord(token);
            } else if (isDigit(first)) {
                scanNumber(token);
            } else {
                kinds[token] = first == ';' ? SIGN_KIND : NO_KIND;
                at++;
            }
        }

        private void scanWord(int token) {
            int start = at;
            while (at < length && isLetter(bytes[at])) {
                at++;
            }
            kinds[token] = at - start > WORD_LETTERS ? NO_KIND : WORD_KIND;
            values[token] = wordNumber(start);
        }

        private void scanNumber(int token) {
            int start = at;
            int number = 0;
            while (at < length && isDigit(bytes[at])) {
                if (at - start < NUMBER_DIGITS) {
                    number = number * 10 + bytes[at] - '0';
                }
                at++;
            }
            boolean tooLong = at - start > NUMBER_DIGITS;
            boolean letterBehind = at < length && isLetter(bytes[at]);
            kinds[token] = tooLong || letterBehind ? NO_KIND : NUMBER_KIND;
            values[token] = number;
        }

        private int wordNumber(int start) {
            int word = 0;
            int alike = 0;
            for (int i = 0; i < WORDS.length(); i++) {
                char sign = WORDS.charAt(i);
                if (sign != ' ') {
                    boolean still = alike != NONE && start + alike < at && bytes[start + alike] == sign;
                    alike = still ? alike + 1 : NONE;
                } else if (alike == at - start) {
                    return word;
                } else {
                    word++;
                    alike = 0;
                }
            }
            return NONE;
        }

        private static boolean isBlank(int b) {
            return b == 32 || b == 10;
        }

        private static boolean isLetter(int b) {
            return b >= 'a' && b <= 'z';
        }

        private static boolean isDigit(int b) {
            return b >= '0' && b <= '9';
        }
    }

    /** Reads the lines of a TAPE into a draft; it stops at the first FAULT. */
    private static final class Reader {
        private static final int SIZE_LINE = 0;
        private static final int SAND_LINE = 1;
        private static final int HEAP_LINE = 2;
        private static final int GRASS_LINE = 3;
        private static final int WIND_LINE = 4;
        private static final int HOP_LINE = 5;
        private static final int SHADOW_LINE = 6;
        private static final int SLOPE_LINE = 7;
        private static final int STICK_LINE = 8;
        private static final int DRAW_LINE = 9;
        private static final int EAST_WORD = 10;
        private static final int NORTH_WORD = 13;
        private static final int BY_WORD = 14;

        private static final int NO_TOKEN = 1;
        private static final int CANT_STAND = 2;
        private static final int TOLD_ALREADY = 3;
        private static final int CANT_BE = 4;

        private final Tape tape;
        final Draft draft = new Draft();
        int wrong = 0;
        int wrongPlace = NONE;
        private int token = 0;

        Reader(Tape tape) {
            this.tape = tape;
        }

        boolean read() {
            draft.clear();
            wrong = 0;
            wrongPlace = NONE;
            token = 0;
            tape.scan();
            for (int lines = 0; lines <= MAX_BYTES && wrong == 0 && kind() != END_KIND; lines++) {
                int line = readLineWord(lines);
                if (wrong == 0) {
                    draft.setTold(line);
                    readRest(line);
                    expect(kind() == SIGN_KIND);
                }
            }
            return wrong == 0;
        }

        private int kind() {
            return tape.kinds[token];
        }

        private int value() {
            return tape.values[token];
        }

        /** Nothing but the end comes behind the end. */
        private void advance() {
            if (kind() != END_KIND && token < MAX_BYTES) {
                token++;
            }
        }

        private void refuse(int which, int at) {
            if (wrong == 0) {
                wrong = which;
                wrongPlace = tape.places[at];
            }
        }

        private void refuseToken() {
            refuse(kind() == NO_KIND ? NO_TOKEN : CANT_STAND, token);
        }

        private int readLineWord(int lines) {
            int line = kind() == WORD_KIND ? value() : NONE;
            if (line < SIZE_LINE || line > DRAW_LINE) {
                refuseToken();
            } else if (line == SIZE_LINE && lines > 0 || line == HEAP_LINE && draft.heaps >= MAX_HEAPS) {
                refuse(CANT_STAND, token);
            } else if (line != HEAP_LINE && line != GRASS_LINE && draft.isTold(line)) {
                refuse(TOLD_ALREADY, token);
            } else {
                advance();
            }
            return line;
        }

        private void readRest(int line) {
            switch (line) {
                case SIZE_LINE: readSize(); break;
                case SAND_LINE: draft.base = readNumber(0, 9); break;
                case HEAP_LINE: readHeap(); break;
                case GRASS_LINE: readGrass(); break;
                case WIND_LINE: readWind(); break;
                case HOP_LINE: readRule(HOP); break;
                case SHADOW_LINE: readRule(SHADOW); break;
                case SLOPE_LINE: draft.slope = readNumber(1, 9); break;
                case STICK_LINE:
                    readRule(STICK_SAND);
                    readRule(STICK_BARE);
                    break;
                default: draft.seed = readNumber(0, MAX_SEED); break;
            }
        }

        private void readSize() {
            draft.columns = readNumber(3, MAX_COLUMNS);
            expect(kind() == WORD_KIND && value() == BY_WORD);
            draft.rows = readNumber(1, MAX_ROWS);
        }

        private void readHeap() {
            int column = readNumber(0, draft.columns - 1);
            int row = readNumber(0, draft.rows - 1);
            int higher = readNumber(1, 50);
            if (wrong == 0) {
                draft.added[row * draft.columns + column] += higher;
                draft.heaps++;
            }
        }

        private void readGrass() {
            int column = readNumber(0, draft.columns - 1);
            int rowToken = token;
            int row = readNumber(0, draft.rows - 1);
            if (wrong != 0) {
                return;
            }
            int cell = row * draft.columns + column;
            if (draft.grass[cell] == 1) {
                refuse(TOLD_ALREADY, rowToken);
            }
            draft.grass[cell] = 1;
        }

        private void readWind() {
            draft.winds = 0;
            for (int i = 0; i < MAX_WINDS && wrong == 0; i++) {
                if (i > 0 && kind() == SIGN_KIND) {
                    return;
                }
                int way = value() - EAST_WORD;
                expect(kind() == WORD_KIND && way >= 0 && way <= NORTH_WORD - EAST_WORD);
                draft.ways[i] = way;
                draft.spans[i] = readNumber(1, 99);
                draft.winds++;
            }
        }

        private void readRule(int rule) {
            draft.rules[rule] = readNumber(RULE_LEAST[rule], RULE_MOST[rule]);
        }

        /** Goes behind a TOKEN that can stand there; behind a FAULT nothing is read any more. */
        private void expect(boolean canStand) {
            if (wrong != 0) {
                return;
            }
            if (canStand) {
                advance();
            } else {
                refuseToken();
            }
        }

        /** The least one stands for a number that is not there, so that what comes behind stays within bounds. */
        private int readNumber(int least, int most) {
            if (wrong == 0 && kind() != NUMBER_KIND) {
                refuseToken();
            }
            int number = value();
            if (wrong == 0 && (number < least || number > most)) {
                refuse(CANT_BE, token);
            }
            if (wrong != 0) {
                return least;
            }
            advance();
            return number;
        }
    }

    /** What a FIELD keeps as long as it is the FIELD: its shape, its WIND's round, its slope. */
    private static final class Land {
        int columns;
        int rows;
        int cells;
        int slope;
        int winds;
        int round;
        final int[] columnOf = new int[MAX_CELLS];
        final int[] rowOf = new int[MAX_CELLS];
        final int[] near = new int[MAX_CELLS * WAYS];
        final int[] ways = new int[MAX_WINDS];
        final int[] spans = new int[MAX_WINDS];

        void shape(Draft draft) {
            columns = draft.columns;
            rows = draft.rows;
            cells = columns * rows;
            slope = draft.slope;
            winds = draft.winds;
            round = 0;
            for (int i = 0; i < winds; i++) {
                ways[i] = draft.ways[i];
                spans[i] = draft.spans[i];
                round += spans[i];
            }
            numberCells();
            joinCells();
        }

        private void numberCells() {
            for (int row = 0; row < rows; row++) {
                for (int column = 0; column < columns; column++) {
                    int cell = row * columns + column;
                    columnOf[cell] = column;
                    rowOf[cell] = row;
                }
            }
        }

        private void joinCells() {
            for (int cell = 0; cell < cells; cell++) {
                near[cell * WAYS] = moved(cell, 1, 0);
                near[cell * WAYS + 1] = moved(cell, 0, 1);
                near[cell * WAYS + 2] = moved(cell, columns - 1, 0);
                near[cell * WAYS + 3] = moved(cell, 0, rows - 1);
            }
        }

        /** The CELL so many columns east (fewer than there are) and rows south of one. */
        int moved(int cell, int east, int south) {
            int column = columnOf[cell] + east;
            int row = rowOf[cell] + south;
            return (row >= rows ? row - rows : row) * columns + (column >= columns ? column - columns : column);
        }

        boolean has(int cell) {
            return cell >= 0 && cell < cells;
        }

        int neighbour(int cell, int way) {
            return near[cell * WAYS + way];
        }

        /** How many CELLS there are in a round that way. */
        int roundOf(int way) {
            return way == EAST || way == WEST ? columns : rows;
        }

        int windAt(int tries) {
            int left = round > 0 ? tries % round : 0;
            for (int i = 0; i < winds; i++) {
                if (left < spans[i]) {
                    return ways[i];
                }
                left -= spans[i];
            }
            return EAST;
        }
    }

    /** All that ACTS change, and that a BOX keeps. */
    private static final class Sand {
        final int[] heights = new int[MAX_CELLS];
        final int[] grass = new int[MAX_CELLS];
        final int[] rules = new int[RULES];
        int seed;
        int tries;

        void begin(Draft draft) {
            int cells = draft.columns * draft.rows;
            for (int cell = 0; cell < MAX_CELLS; cell++) {
                heights[cell] = cell < cells ? draft.base + draft.added[cell] : 0;
            }
            System.arraycopy(draft.grass, 0, grass, 0, MAX_CELLS);
            System.arraycopy(draft.rules, 0, rules, 0, RULES);
            seed = draft.seed;
            tries = 0;
        }

        void copy(Sand other) {
            System.arraycopy(other.heights, 0, heights, 0, MAX_CELLS);
            System.arraycopy(other.grass, 0, grass, 0, MAX_CELLS);
            System.arraycopy(other.rules, 0, rules, 0, RULES);
            seed = other.seed;
            tries = other.tries;
        }

        int slabs() {
            int sum = 0;
            for (int cell = 0; cell < MAX_CELLS; cell++) {
                sum += heights[cell];
            }
            return sum;
        }

        int highest() {
            int most = 0;
            for (int cell = 0; cell < MAX_CELLS; cell++) {
                most = Math.max(most, heights[cell]);
            }
            return most;
        }

        int bareCells(int cells) {
            int count = 0;
            for (int cell = 0; cell < cells; cell++) {
                if (heights[cell] == 0) {
                    count++;
                }
            }
            return count;
        }

        int stickAt(int cell) {
            return rules[heights[cell] > 0 ? STICK_SAND : STICK_BARE];
        }

        int drawOf(int m) {
            seed = (seed * 137 + 71) % 10007;
            return m > 0 ? seed % m : 0;
        }
    }

    /** TRIES on some sand, with all that slides, and counts of what went where. */
    private static final class Storm {
        /** Each slide lowers the sum of all squared HEIGHTS by two at least, and no text makes it 1,100,000. */
        private static final int MAX_SLIDES = 1000000;

        private final Land land;
        private final Sand sand;
        final int[] crossings = new int[MAX_COLUMNS];
        int hops = 0;
        int slides = 0;

        Storm(Land land, Sand sand) {
            this.land = land;
            this.sand = sand;
        }

        void startFrom(Sand start, int seed) {
            sand.copy(start);
            sand.seed = seed;
            hops = 0;
            slides = 0;
            Arrays.fill(crossings, 0);
        }

        /** How many of so many TRIES were not IDLE. */
        int blowOn(int n) {
            int busy = 0;
            for (int i = 0; i < n; i++) {
                if (tryOnce()) {
                    busy++;
                }
            }
            return busy;
        }

        private boolean tryOnce() {
            int way = land.windAt(sand.tries);
            sand.tries++;
            int from = sand.drawOf(land.cells);
            if (!yields(from, way)) {
                return false;
            }
            lift(from);
            drop(carry(from, way));
            return true;
        }

        boolean yields(int cell, int way) {
            return sand.heights[cell] > 0 && sand.grass[cell] == 0 && !shaded(cell, way);
        }

        private int carry(int from, int way) {
            int at = from;
            for (int hop = 1; hop <= MAX_HOPS; hop++) {
                at = hopOn(at, way);
                if (hop == MAX_HOPS || shaded(at, way) || sand.drawOf(DRAW_STICK) < sand.stickAt(at)) {
                    return at;
                }
            }
            return at;
        }

        int hopOn(int from, int way) {
            int at = from;
            for (int i = 0; i < sand.rules[HOP]; i++) {
                int to = land.neighbour(at, way);
                cross(at, to, way);
                at = to;
            }
            hops++;
            return at;
        }

        boolean shaded(int cell, int way) {
            int against = way ^ 2;
            int around = land.roundOf(way);
            int at = cell;
            int needed = sand.heights[cell];
            for (int k = 1; k < around; k++) {
                at = land.neighbour(at, against);
                needed += sand.rules[SHADOW];
                if (sand.heights[at] >= needed) {
                    return true;
                }
            }
            return false;
        }

        boolean isCrest(int cell, int way) {
            int height = sand.heights[cell];
            return height > 0
                    && height >= sand.heights[land.neighbour(cell, way ^ 2)]
                    && height > sand.heights[land.neighbour(cell, way)];
        }

        /** A slab is taken, and the CELL is FILLED. Each further one is higher, so none comes twice. */
        void lift(int cell) {
            sand.heights[cell]--;
            int at = cell;
            for (int i = 0; i < MAX_CELLS; i++) {
                int way = wayUp(at);
                if (way == NONE) {
                    return;
                }
                int from = land.neighbour(at, way);
                slide(from, way ^ 2);
                at = from;
            }
        }

        /** A slab is added, and the CELL SPILLS. Each further one is lower, so none comes twice. */
        void drop(int cell) {
            sand.heights[cell]++;
            int at = cell;
            for (int i = 0; i < MAX_CELLS; i++) {
                int way = wayDown(at);
                if (way == NONE) {
                    return;
                }
                slide(at, way);
                at = land.neighbour(at, way);
            }
        }

        void settle() {
            for (int i = 0; i < MAX_SLIDES; i++) {
                int cell = firstSteep();
                if (cell == NONE) {
                    return;
                }
                slide(cell, wayDown(cell));
            }
        }

        private int firstSteep() {
            for (int cell = 0; cell < land.cells; cell++) {
                if (wayDown(cell) != NONE) {
                    return cell;
                }
            }
            return NONE;
        }

        /** The way to the highest NEIGHBOUR that is too high; NONE if there is none such. */
        private int wayUp(int cell) {
            int most = sand.heights[cell] + land.slope;
            int best = NONE;
            for (int way = 0; way < WAYS; way++) {
                int height = sand.heights[land.neighbour(cell, way)];
                if (height > most) {
                    most = height;
                    best = way;
                }
            }
            return best;
        }

        /** The way to the lowest NEIGHBOUR that is too low; NONE if there is none such. */
        private int wayDown(int cell) {
            int least = sand.heights[cell] - land.slope;
            int best = NONE;
            for (int way = 0; way < WAYS; way++) {
                int height = sand.heights[land.neighbour(cell, way)];
                if (height < least) {
                    least = height;
                    best = way;
                }
            }
            return best;
        }

        private void slide(int from, int way) {
            int to = land.neighbour(from, way);
            sand.heights[from]--;
            sand.heights[to]++;
            slides++;
            cross(from, to, way);
        }

        /** The line ahead of a column lies to the west of it. */
        private void cross(int from, int to, int way) {
            if (way == EAST) {
                crossings[land.columnOf[to]]++;
            } else if (way == WEST) {
                crossings[land.columnOf[from]]--;
            }
        }
    }

    /** CELLS that hang together, numbered by their first ones. */
    private static final class Lumps {
        private final Land land;
        private final boolean[] in = new boolean[MAX_CELLS];
        private final int[] reached = new int[MAX_CELLS];
        private int reachedCount = 0;
        /** The lump of each CELL, NONE if it is in none. */
        final int[] label = new int[MAX_CELLS];
        int count = 0;

        Lumps(Land land) {
            this.land = land;
        }

        void joinLevel(int[] heights, int level) {
            for (int cell = 0; cell < land.cells; cell++) {
                in[cell] = heights[cell] >= level;
            }
            join(false);
        }

        void joinCrests(Storm storm, int way) {
            for (int cell = 0; cell < land.cells; cell++) {
                in[cell] = storm.isCrest(cell, way);
            }
            join(true);
        }

        private void join(boolean byCorners) {
            Arrays.fill(label, NONE);
            count = 0;
            for (int cell = 0; cell < land.cells; cell++) {
                if (in[cell] && label[cell] == NONE) {
                    spread(cell, byCorners);
                    count++;
                }
            }
        }

        private void spread(int first, boolean byCorners) {
            reachedCount = 0;
            reach(first);
            for (int i = 0; i < reachedCount && i < MAX_CELLS; i++) {
                for (int way = 0; way < WAYS; way++) {
                    int side = land.neighbour(reached[i], way);
                    reach(side);
                    if (byCorners) {
                        reach(land.neighbour(side, way + 1 & 3));
                    }
                }
            }
        }

        private void reach(int cell) {
            if (in[cell] && label[cell] == NONE && reachedCount < MAX_CELLS) {
                label[cell] = count;
                reached[reachedCount] = cell;
                reachedCount++;
            }
        }

        int firstCell(int lump) {
            for (int cell = 0; cell < land.cells; cell++) {
                if (lump != NONE && label[cell] == lump) {
                    return cell;
                }
            }
            return NONE;
        }

        int size(int lump) {
            int size = 0;
            for (int cell = 0; cell < land.cells; cell++) {
                if (label[cell] == lump) {
                    size++;
                }
            }
            return size;
        }
    }

    /** The sand behind each ACT that is kept; what is now stands at number 'done'. */
    private static final class History {
        private final Sand[] states = new Sand[MAX_ACTS + 1];
        int done = 0;
        int undone = 0;

        History() {
            for (int i = 0; i <= MAX_ACTS; i++) {
                states[i] = new Sand();
            }
        }

        void forget(Sand now) {
            done = 0;
            undone = 0;
            states[0].copy(now);
        }

        void add(Sand now) {
            undone = 0;
            if (done < MAX_ACTS) {
                done++;
            } else {
                dropOldest();
            }
            states[done].copy(now);
        }

        private void dropOldest() {
            Sand oldest = states[0];
            for (int i = 0; i < MAX_ACTS; i++) {
                states[i] = states[i + 1];
            }
            states[MAX_ACTS] = oldest;
        }

        boolean goBack(Sand now) {
            if (done == 0) {
                return false;
            }
            done--;
            undone++;
            now.copy(states[done]);
            return true;
        }

        boolean goOn(Sand now) {
            if (undone == 0) {
                return false;
            }
            undone--;
            done++;
            now.copy(states[done]);
            return true;
        }
    }

    /** What is SEEN, and which SEEDS fit it; a set of SEEDS is a number with a bit for each. */
    private static final class Sightings {
        private static final long ALL_SEEDS = (1L << SEEDS) - 1;

        private final Land land;
        private final Sand told;
        private final Sand probe;
        private final Storm trial;
        private final int[] toldAt = new int[MAX_SEEN];
        private final int[] untoldAt = new int[MAX_SEEN];
        /** The FIELD as told stays as long as what is SEEN, so the SEEDS of each are looked for but once. */
        private final long[] seeds = new long[MAX_SEEN];
        private final int[] surveyed = new int[SEEDS * MAX_CELLS];
        int count = 0;

        Sightings(Land land, Sand told, Sand probe, Storm trial) {
            this.land = land;
            this.told = told;
            this.probe = probe;
            this.trial = trial;
        }

        int tell(long fitting, int time) {
            if (count >= MAX_SEEN) {
                return NONE;
            }
            toldAt[count] = time;
            untoldAt[count] = NONE;
            seeds[count] = fitting;
            count++;
            return count - 1;
        }

        boolean takeBack(int number, int time) {
            if (number < 0 || number >= count || untoldAt[number] != NONE) {
                return false;
            }
            untoldAt[number] = time;
            return true;
        }

        /** The SEEDS by which, behind n TRIES, a CELL is h high or higher, or is not. */
        long seedsFor(int n, int cell, int h, boolean is) {
            long found = 0;
            for (int seed = 0; seed < SEEDS; seed++) {
                trial.startFrom(told, seed);
                trial.blowOn(n);
                if (probe.heights[cell] >= h == is) {
                    found |= 1L << seed;
                }
            }
            return found;
        }

        /** The SEEDS by which all that counts, as known at a time, is so. */
        long fitting(int k) {
            long fitting = ALL_SEEDS;
            for (int i = 0; i < count; i++) {
                boolean untold = untoldAt[i] != NONE && untoldAt[i] <= k;
                if (toldAt[i] <= k && !untold) {
                    fitting &= seeds[i];
                }
            }
            return fitting;
        }

        /** Notes the HEIGHTS behind n TRIES by each of some SEEDS. */
        void survey(int n, long some) {
            for (int seed = 0; seed < SEEDS; seed++) {
                if (holds(some, seed)) {
                    trial.startFrom(told, seed);
                    trial.blowOn(n);
                    System.arraycopy(probe.heights, 0, surveyed, seed * MAX_CELLS, land.cells);
                }
            }
        }

        /** The most of some SEEDS, as surveyed, by which a CELL has one and the same HEIGHT. */
        int mostAlike(int cell, long some) {
            int most = 0;
            for (int seed = 0; seed < SEEDS; seed++) {
                if (holds(some, seed)) {
                    most = Math.max(most, alike(cell, surveyed[seed * MAX_CELLS + cell], some));
                }
            }
            return most;
        }

        private int alike(int cell, int height, long some) {
            int found = 0;
            for (int seed = 0; seed < SEEDS; seed++) {
                if (holds(some, seed) && surveyed[seed * MAX_CELLS + cell] == height) {
                    found++;
                }
            }
            return found;
        }

        static boolean holds(long some, int seed) {
            return (some >> seed & 1L) == 1L;
        }
    }
}
