import java.math.BigInteger;

/** Each sentence of promises 18 and 28 to 32, and of FLUX, that names a limit. */
public final class EdgeAheadTest {
    private static final Check check = new Check();
    private static final int MIN = Integer.MIN_VALUE;
    private static final int MAX = Integer.MAX_VALUE;
    private static final String DUNES =
            "size 7 by 4;sand 2;heap 2 1 9;heap 5 3 12;grass 3 3;wind east 3 south 2 west 1 north 1;stick 7 4;draw 17;";

    public static void main(String[] args) {
        landsByHops();
        landsInLowestTerms();
        landsNever();
        landsThereAgain();
        landsFilled();
        landsOfNoSlab();
        landsOutside();
        landsTogether();
        wouldLimits();
        nextLimits();
        nextOfTheTwentiethHop();
        slidesCount();
        fluxOfEachHop();
        fluxOfSlides();
        fluxRoundTheEdge();
        fluxLimits();
        gameLimits();
        gameOfNoTries();
        tallestLimits();
        tallestOfFifty();
        check.finish("EdgeAheadTest");
    }

    private static void dueChance(SandMarch x, int cell, int to, int n, long upper, long lower) {
        String call = "lands(" + cell + ", " + to + ", " + n + ", ";
        check.due(call + "0)", x.lands(cell, to, n, 0), upper);
        check.due(call + "1)", x.lands(cell, to, n, 1), lower);
    }

    /** "by n hops (1 .. 12) at most": the n-th hop counts, the next one does not. */
    private static void landsByHops() {
        SandMarch x = Check.fieldOf("size 12 by 1;sand 2;slope 9;shadow 9;hop 1;stick 8 8;");
        for (int to = 1; to <= 11; to++) {
            for (int n = 1; n <= 12; n++) {
                dueChance(x, 0, to, n, n >= to ? 1 : 0, n >= to ? 1L << to : 1);
            }
        }
        dueChance(x, 0, 0, 11, 0, 1);
        dueChance(x, 0, 0, 12, 1, 4096);
        // the 13th comes to cell 1 again, but 12 are the most
        dueChance(x, 0, 1, 12, 1, 2);
        for (int n : new int[] {0, -1, 13, 14, MIN, MAX}) {
            check.due("lands(0, 1, " + n + ", 0)", x.lands(0, 1, n, 0), -1);
            check.due("lands(0, 1, " + n + ", 1)", x.lands(0, 1, n, 1), -1);
        }
    }

    /** "the upper part (0), the lower part (1), in lowest terms". */
    private static void landsInLowestTerms() {
        for (int stick = 1; stick <= 16; stick++) {
            SandMarch x = Check.fieldOf("size 3 by 1;sand 2;slope 9;shadow 9;hop 3;stick " + stick + " 0;");
            for (int n = 1; n <= 12; n++) {
                BigInteger lower = BigInteger.valueOf(16).pow(n);
                BigInteger upper = lower.subtract(BigInteger.valueOf(16 - stick).pow(n));
                BigInteger both = upper.gcd(lower);
                dueChance(x, 1, 1, n, upper.divide(both).longValueExact(), lower.divide(both).longValueExact());
            }
        }
        SandMarch odd = Check.fieldOf("size 3 by 1;sand 2;slope 9;shadow 9;hop 3;stick 15 0;");
        dueChance(odd, 1, 1, 12, (1L << 48) - 1, 1L << 48);
    }

    /** "(0 of 1)"; and a sure one is 1 of 1. */
    private static void landsNever() {
        SandMarch none = Check.fieldOf("size 3 by 1;sand 2;slope 9;shadow 9;hop 1;stick 0 0;");
        SandMarch sure = Check.fieldOf("size 3 by 1;sand 2;slope 9;shadow 9;hop 1;stick 16 16;");
        for (int to = 0; to < 3; to++) {
            for (int n = 1; n <= 12; n++) {
                dueChance(none, 0, to, n, 0, 1);
                dueChance(sure, 0, to, n, to == 1 ? 1 : 0, 1);
            }
        }
    }

    /** "comes down on another one, or there again": by the HEIGHTS without the slab. */
    private static void landsThereAgain() {
        SandMarch last = Check.fieldOf("size 3 by 1;sand 0;slope 9;shadow 9;heap 0 0 1;hop 3;stick 16 4;");
        dueChance(last, 0, 0, 1, 1, 4);
        dueChance(last, 0, 0, 2, 7, 16);
        SandMarch two = Check.fieldOf("size 3 by 1;sand 0;slope 9;shadow 9;heap 0 0 2;hop 3;stick 16 4;");
        dueChance(two, 0, 0, 1, 1, 1);
        // one row, by the south wind: always there again
        SandMarch row = Check.fieldOf("size 3 by 1;sand 2;slope 9;shadow 9;stick 8 8;wind south 1;");
        dueChance(row, 1, 1, 1, 1, 2);
        dueChance(row, 1, 1, 2, 3, 4);
        dueChance(row, 1, 2, 12, 0, 1);
    }

    /** "(its CELL being FILLED)": cell 1 is 1 lower then, so that its shadow does not reach cell 2. */
    private static void landsFilled() {
        SandMarch x = Check.fieldOf("size 5 by 1;sand 1;slope 2;shadow 2;hop 2;stick 4 0;heap 1 0 2;");
        check.dueHeights("told", x, "1 3 1 1 1");
        check.due("shadow now", x.cell(2, 1), 1);
        check.due("cell 0 can be taken from", x.all(6), 4);
        // cell 0 gets a slab from cell 1: 1 2 1 1 1, and no shadow lies on cell 2
        dueChance(x, 0, 2, 1, 1, 4);
        // taken from cell 3: nothing is filled, and it comes to cell 0, then to cell 2 in shadow
        dueChance(x, 3, 0, 1, 1, 4);
        dueChance(x, 3, 2, 2, 3, 4);
        check.dueHeights("nothing is done", x, "1 3 1 1 1");
        // emptied: the bare ground's stick counts there
        SandMarch bare = Check.fieldOf("size 4 by 1;sand 0;slope 2;shadow 9;hop 1;stick 0 8;heap 0 0 2;heap 1 0 1;");
        dueChance(bare, 1, 2, 1, 1, 2);
        dueChance(bare, 1, 1, 4, 1, 8);
    }

    /** "NONE if none would be taken from it": BARE, grass, SHADOW. */
    private static void landsOfNoSlab() {
        SandMarch x = Check.fieldOf("size 6 by 1;sand 1;slope 9;shadow 3;heap 1 0 3;grass 4 0;");
        x.take(5);
        check.dueHeights("as it is", x, "1 4 1 1 1 0");
        int[] want = {1, 1, -1, 1, -1, -1};
        for (int cell = 0; cell < 6; cell++) {
            for (int part = 0; part < 2; part++) {
                check.due("lands(" + cell + ") of a slab", x.lands(cell, 0, 1, part) >= 0 ? 1 : -1, want[cell]);
            }
        }
        x.turn(1, 4);
        check.due("no more shadow", x.lands(2, 4, 1, 0), 5);
        x.sow(4, false);
        check.due("no more grass", x.lands(4, 0, 1, 0), 5);
        x.put(5, 1);
        check.due("no more bare", x.lands(5, 1, 1, 0), 5);
        x.sow(5, true);
        check.due("grass sown", x.lands(5, 1, 1, 0), -1);
    }

    private static void landsOutside() {
        SandMarch x = Check.fieldOf("size 4 by 2;sand 2;slope 9;shadow 9;hop 1;stick 8 8;");
        for (int cell : new int[] {-1, 8, 9, MIN, MAX}) {
            check.due("lands(" + cell + ", 0, 1, 0)", x.lands(cell, 0, 1, 0), -1);
            check.due("lands(0, " + cell + ", 1, 0)", x.lands(0, cell, 1, 0), -1);
        }
        for (int part : new int[] {-1, 2, 3, MIN, MAX}) {
            check.due("lands(0, 1, 1, " + part + ")", x.lands(0, 1, 1, part), -1);
        }
        dueChance(x, 7, 4, 1, 1, 2);
        dueChance(x, 0, 7, 1, 0, 1);
    }

    /** Over all CELLS the chances by 12 hops are less than one by what flies on still. */
    private static void landsTogether() {
        SandMarch x = Check.fieldOf("size 5 by 1;sand 2;slope 9;shadow 9;hop 2;stick 5 5;");
        BigInteger sum = BigInteger.ZERO;
        BigInteger whole = BigInteger.valueOf(16).pow(12);
        for (int to = 0; to < 5; to++) {
            BigInteger upper = BigInteger.valueOf(x.lands(3, to, 12, 0));
            BigInteger lower = BigInteger.valueOf(x.lands(3, to, 12, 1));
            sum = sum.add(upper.multiply(whole.divide(lower)));
        }
        check.due("all together", sum.equals(whole.subtract(BigInteger.valueOf(11).pow(12))), true);
    }

    /** "Behind n TRIES (0 .. 500) from now on: the HEIGHT of a CELL; NONE if one can't be." */
    private static void wouldLimits() {
        for (int n : new int[] {0, 1, 499, 500}) {
            SandMarch x = Check.fieldOf(DUNES);
            SandMarch y = Check.fieldOf(DUNES);
            x.blow(5);
            y.blow(5);
            if (n > 0) {
                y.blow(n);
            }
            for (int cell = 0; cell < 28; cell++) {
                check.due("would(" + n + ", " + cell + ")", x.would(n, cell), y.cell(cell, 0));
            }
        }
        SandMarch x = Check.fieldOf(DUNES);
        for (int n : new int[] {-1, 501, 502, MIN, MAX}) {
            check.due("would(" + n + ", 0)", x.would(n, 0), -1);
        }
        for (int cell : new int[] {-1, 28, 29, MIN, MAX}) {
            check.due("would(0, " + cell + ")", x.would(0, cell), -1);
            check.due("would(1, " + cell + ")", x.would(1, cell), -1);
        }
    }

    /** "Of the next n TRIES (0 .. 500) ..; NONE if one can't be." */
    private static void nextLimits() {
        for (int n : new int[] {0, 1, 499, 500}) {
            SandMarch x = Check.fieldOf(DUNES);
            SandMarch y = Check.fieldOf(DUNES);
            x.blow(5);
            y.blow(5);
            int busy = n > 0 ? y.blow(n) : 0;
            check.due("next(" + n + ", 0)", x.next(n, 0), n - busy);
            check.due("a hop at least for each slab", x.next(n, 1) >= busy, true);
            check.due("twenty at most", x.next(n, 1) <= 20 * busy, true);
            if (n == 0) {
                check.due("no hop", x.next(0, 1), 0);
                check.due("no slide", x.next(0, 2), 0);
            }
        }
        SandMarch x = Check.fieldOf(DUNES);
        for (int what = 0; what < 3; what++) {
            for (int n : new int[] {-1, 501, 502, MIN, MAX}) {
                check.due("next(" + n + ", " + what + ")", x.next(n, what), -1);
            }
        }
        for (int what : new int[] {-1, 3, 4, MIN, MAX}) {
            check.due("next(1, " + what + ")", x.next(1, what), -1);
            check.due("next(0, " + what + ")", x.next(0, what), -1);
        }
    }

    private static void nextOfTheTwentiethHop() {
        SandMarch far = Check.fieldOf("size 5 by 1;sand 2;slope 9;shadow 9;stick 0 0;");
        SandMarch near = Check.fieldOf("size 5 by 1;sand 2;slope 9;shadow 9;stick 16 16;");
        for (int n : new int[] {0, 1, 2, 3}) {
            check.due("idle", far.next(n, 0), 0);
            check.due("twenty hops each", far.next(n, 1), 20 * n);
            check.due("one hop each", near.next(n, 1), n);
        }
        SandMarch idle = Check.fieldOf("size 5 by 1;sand 0;");
        check.due("all idle", idle.next(500, 0), 500);
        check.due("no hop", idle.next(500, 1), 0);
        check.due("no slide", idle.next(500, 2), 0);
    }

    /** "(2: a slab from one CELL to another one by FILL or SPILL, each)". */
    private static void slidesCount() {
        // taken from cell 0: filled from 1, that from 2, that from 3; on cell 6 it stays
        SandMarch fill = Check.fieldOf("size 8 by 1;sand 1;slope 1;shadow 9;hop 6;stick 16 16;heap 1 0 1;heap 2 0 2;heap 3 0 3;"
                + "heap 4 0 2;heap 5 0 1;draw " + Draws.seedFor(8, 0) + ";");
        check.dueHeights("told", fill, "1 2 3 4 3 2 1 1");
        check.due("three by fill, none by spill", fill.next(1, 2), 3);
        fill.blow(1);
        check.dueHeights("behind it", fill, "1 2 3 3 3 2 2 1");
        // taken from cell 4, which is not filled; from cell 0 it slides back to cell 4
        SandMarch spill = Check.fieldOf("size 9 by 1;sand 1;slope 1;shadow 9;hop 5;stick 16 16;heap 0 0 3;heap 1 0 2;heap 2 0 1;"
                + "heap 6 0 1;heap 7 0 2;heap 8 0 2;draw " + Draws.seedFor(9, 4) + ";");
        check.dueHeights("told", spill, "4 3 2 1 1 1 2 3 3");
        check.due("none by fill, four by spill", spill.next(1, 2), 4);
        spill.blow(1);
        check.dueHeights("behind it", spill, "4 3 2 1 1 1 2 3 3");
        // no slide counts that was made when the field was told, or by what was done by hand
        SandMarch steep = Check.fieldOf("size 9 by 1;sand 0;slope 1;heap 4 0 50;");
        steep.put(2, 9);
        check.due("of no try", steep.next(0, 2), 0);
    }

    private static SandMarch plain(int columns, int cell, int hop, String way) {
        return Check.fieldOf("size " + columns + " by 1;sand 2;slope 9;shadow 9;stick 16 16;hop " + hop + ";wind " + way
                + " 1;draw " + Draws.seedFor(columns, cell) + ";");
    }

    /** "how many hops go through it to the east, less those to the west (each as often as it does)". */
    private static void fluxOfEachHop() {
        for (int columns = 3; columns <= 12; columns++) {
            for (int hop = 1; hop <= 6; hop++) {
                for (int cell : new int[] {0, columns / 2, columns - 1}) {
                    int[] east = new int[columns];
                    int[] west = new int[columns];
                    for (int i = 1; i <= hop; i++) {
                        east[(cell + i) % columns]++;
                        west[Math.floorMod(cell - i + 1, columns)]--;
                    }
                    SandMarch toEast = plain(columns, cell, hop, "east");
                    SandMarch toWest = plain(columns, cell, hop, "west");
                    SandMarch toSouth = plain(columns, cell, hop, "south");
                    for (int column = 0; column < columns; column++) {
                        check.due("east through " + column, toEast.flux(column, 1), east[column]);
                        check.due("west through " + column, toWest.flux(column, 1), west[column]);
                        check.due("south through " + column, toSouth.flux(column, 1), 0);
                    }
                }
            }
        }
    }

    /** "(.. slides, too)": to the east they count up, to the west down, to the south and north not. */
    private static void fluxOfSlides() {
        // the wind blows south in one row, so that only slides cross a line
        String told = "size 6 by 1;sand 1;slope 1;shadow 9;stick 16 16;wind south 1;";
        SandMarch fromEast = Check.fieldOf(told + "heap 3 0 1;heap 4 0 1;draw " + Draws.seedFor(6, 2) + ";");
        check.dueHeights("told", fromEast, "1 1 1 2 2 1");
        int[] none = {0, 0, 0, -1, 0, 0};
        for (int column = 0; column < 6; column++) {
            check.due("a slide west through " + column, fromEast.flux(column, 1), none[column]);
        }
        SandMarch fromWest = Check.fieldOf(told + "heap 1 0 1;heap 0 0 1;draw " + Draws.seedFor(6, 2) + ";");
        check.dueHeights("told", fromWest, "2 2 1 1 1 1");
        int[] one = {0, 0, 1, 0, 0, 0};
        for (int column = 0; column < 6; column++) {
            check.due("a slide east through " + column, fromWest.flux(column, 1), one[column]);
        }
        SandMarch fromSouth = Check.fieldOf("size 3 by 3;sand 1;slope 1;shadow 9;stick 16 16;hop 3;wind south 1;heap 1 2 1;draw "
                + Draws.seedFor(9, 4) + ";");
        check.due("a slide", fromSouth.next(1, 2), 1);
        for (int column = 0; column < 3; column++) {
            check.due("a slide north through " + column, fromSouth.flux(column, 1), 0);
        }
    }

    private static void fluxRoundTheEdge() {
        SandMarch east = plain(5, 4, 1, "east");
        SandMarch west = plain(5, 0, 1, "west");
        int[] first = {1, 0, 0, 0, 0};
        for (int column = 0; column < 5; column++) {
            check.due("from the last to the first", east.flux(column, 1), first[column]);
            check.due("from the first to the last", west.flux(column, 1), -first[column]);
        }
        // of 20 hops of 6 in 3 columns each line is passed 40 times
        SandMarch far = Check.fieldOf("size 3 by 1;sand 2;slope 9;shadow 9;stick 0 0;hop 6;");
        for (int column = 0; column < 3; column++) {
            check.due("forty times", far.flux(column, 1), 40);
            check.due("of 3 tries", far.flux(column, 3), 120);
        }
    }

    /** "FLUX (n 0 .. 500); NONE if there is no such column, number." */
    private static void fluxLimits() {
        SandMarch x = Check.fieldOf(DUNES);
        for (int column : new int[] {-1, 7, 8, MIN, MAX}) {
            check.due("flux(" + column + ", 0)", x.flux(column, 0), -1);
            check.due("flux(" + column + ", 1)", x.flux(column, 1), -1);
        }
        SandMarch east = Check.fieldOf("size 3 by 1;sand 9;slope 9;shadow 9;stick 16 16;hop 3;");
        for (int column = 0; column < 3; column++) {
            for (int n : new int[] {-1, 501, 502, MIN, MAX}) {
                check.due("flux(" + column + ", " + n + ")", east.flux(column, n), -1);
            }
            for (int n : new int[] {0, 1, 499, 500}) {
                check.due("flux(" + column + ", " + n + ")", east.flux(column, n), n);
            }
        }
    }

    /** "A GAME by another SEED (0 .. 9,999) of n TRIES (0 .. 500)"; what 0 .. 3. */
    private static void gameLimits() {
        for (int seed : new int[] {0, 1, 9998, 9999}) {
            for (int n : new int[] {1, 499, 500}) {
                SandMarch x = Check.fieldOf(DUNES);
                SandMarch y = Check.fieldOf(DUNES.replace("draw 17", "draw " + seed));
                int busy = y.blow(n);
                int[] want = {y.all(1), y.all(2), y.dunes(1), busy};
                for (int what = 0; what < 4; what++) {
                    check.due("game(" + seed + ", " + n + ", " + what + ")", x.game(seed, n, what), want[what]);
                }
            }
        }
        SandMarch x = Check.fieldOf(DUNES);
        for (int what = 0; what < 4; what++) {
            for (int seed : new int[] {-1, 10000, 10006, MIN, MAX}) {
                check.due("game(" + seed + ", 1, " + what + ")", x.game(seed, 1, what), -1);
            }
            for (int n : new int[] {-1, 501, 502, MIN, MAX}) {
                check.due("game(1, " + n + ", " + what + ")", x.game(1, n, what), -1);
            }
        }
        for (int what : new int[] {-1, 4, 5, MIN, MAX}) {
            check.due("game(1, 1, " + what + ")", x.game(1, 1, what), -1);
        }
    }

    /** From now on: the sand, the grass, the rules and the WIND of now, another SEED alone. */
    private static void gameOfNoTries() {
        SandMarch x = Check.fieldOf("size 5 by 1;sand 0;slope 9;heap 1 0 7;heap 3 0 2;");
        int[] want = {7, 3, 2, 0};
        for (int seed : new int[] {0, 9999}) {
            for (int what = 0; what < 4; what++) {
                check.due("game(" + seed + ", 0, " + what + ")", x.game(seed, 0, what), want[what]);
            }
        }
        // "DUNES of LEVEL 1": the low one counts, and bare ground parts them
        SandMarch low = Check.fieldOf("size 5 by 1;sand 0;slope 9;heap 1 0 7;heap 3 0 1;");
        check.due("game(5, 0, 2)", low.game(5, 0, 2), 2);
        check.due("of flat sand", Check.fieldOf("size 5 by 1;sand 1;").game(5, 0, 2), 1);
        check.due("of bare ground", Check.fieldOf("size 5 by 1;sand 0;").game(5, 0, 2), 0);
        SandMarch now = Check.fieldOf(DUNES);
        now.blow(4);
        now.turn(0, 5);
        now.sow(0, true);
        int seed = now.about(3) % 10000;
        SandMarch kept = Check.fieldOf(DUNES);
        kept.blow(4);
        kept.turn(0, 5);
        kept.sow(0, true);
        if (now.about(3) < 10000) {
            int busy = kept.blow(77);
            check.due("by the seed of now", now.game(seed, 77, 3), busy);
            check.due("by the seed of now", now.game(seed, 77, 0), kept.all(1));
        }
    }

    /** "behind n (0 .. 200) TRIES"; "NONE for another number, what". */
    private static void tallestLimits() {
        for (int n : new int[] {0, 1, 199, 200}) {
            SandMarch x = Check.fieldOf(DUNES);
            int most = -1;
            int best = -1;
            for (int seed = 0; seed < 50; seed++) {
                int height = x.game(seed, n, 0);
                if (height > most) {
                    most = height;
                    best = seed;
                }
            }
            check.due("tallest(" + n + ", 0)", x.tallest(n, 0), best);
            check.due("tallest(" + n + ", 1)", x.tallest(n, 1), most);
        }
        SandMarch x = Check.fieldOf(DUNES);
        for (int n : new int[] {-1, 201, 202, MIN, MAX}) {
            check.due("tallest(" + n + ", 0)", x.tallest(n, 0), -1);
            check.due("tallest(" + n + ", 1)", x.tallest(n, 1), -1);
        }
        for (int what : new int[] {-1, 2, 3, MIN, MAX}) {
            check.due("tallest(1, " + what + ")", x.tallest(1, what), -1);
        }
    }

    /** "Of SEEDS 0 to 49 the one .. (of like ones the first)": the first, the last, and none beyond. */
    private static void tallestOfFifty() {
        // behind one try the tallest is 3 by those seeds alone that take from the cell ahead of the heap
        for (int cells = 40; cells <= 96; cells += 8) {
            int columns = cells / 8;
            for (int at = 0; at < cells; at++) {
                SandMarch x = Check.fieldOf("size " + columns + " by 8;sand 1;heap " + at % columns + " " + at / columns
                        + " 1;slope 9;shadow 9;hop 1;stick 16 16;");
                int ahead = x.beside(at, 2);
                int want = 0;
                boolean found = false;
                for (int seed = 0; seed < 50 && !found; seed++) {
                    found = Draws.next(seed) % cells == ahead;
                    want = found ? seed : 0;
                }
                if (!found) {
                    // a slab of the heap itself taken makes 2 of its neighbour, which is as high as the heap was
                    want = 0;
                }
                check.due("seed for " + at + " of " + cells, x.tallest(1, 0), want);
                check.due("height for " + at + " of " + cells, x.tallest(1, 1), found ? 3 : 2);
            }
        }
    }
}
