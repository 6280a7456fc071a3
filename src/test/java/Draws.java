/** The draws of the document, to choose a seed by what it will draw. */
final class Draws {
    private Draws() { }

    static int next(int seed) {
        return (seed * 137 + 71) % 10007;
    }

    static int behind(int seed, int draws) {
        int s = seed;
        for (int i = 0; i < draws; i++) {
            s = next(s);
        }
        return s;
    }

    /** The first seed whose first draw of m is v. */
    static int seedFor(int m, int v) {
        int seed = 0;
        while (next(seed) % m != v) {
            seed++;
        }
        return seed;
    }
}
