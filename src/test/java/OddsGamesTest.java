/** Promises 22 to 26. */
public final class OddsGamesTest {
    private static final long LOST = Long.MIN_VALUE;
    private static final Checks CHECKS = new Checks();

    public static void main(String[] args) {
        mean();
        meanRefused();
        howMany();
        howManyRefused();
        right();
        rests();
        mixed();
        gamesRefused();
        CHECKS.end("OddsGamesTest");
    }

    private static void due(String call, long got, long want) {
        CHECKS.due(call, got, want);
    }

    private static void dueMean(IceSlab slab, int q, int c, int p, int o, long upper, long lower) {
        String call = "mean of q " + q + ", c " + c + ", p " + p + ", o " + o;
        due(call + ", upper", slab.mean(1, 1, 1, 3, q, c, p, o, 0), upper);
        due(call + ", lower", slab.mean(1, 1, 1, 3, q, c, p, o, 1), lower);
    }

    private static void mean() {
        IceSlab slab = new IceSlab();
        Checks.row(slab, 1, 1, 99, 1, 2, 3, 99);
        dueMean(slab, 0, 4, 9, 1, 0, 1);
        dueMean(slab, 1, 4, 9, 1, 11, 3);
        dueMean(slab, 2, 4, 9, 1, 14, 3);
        dueMean(slab, 3, 4, 9, 1, 5, 3);
        dueMean(slab, 3, 0, 0, 0, 0, 1);
        dueMean(slab, 20, 99, 0, 0, -1980, 1);
        dueMean(slab, 20, 0, 0, 99, 1848, 1);
        IceSlab longest = new IceSlab();
        int[] weights = new int[20];
        weights[19] = 99;
        Checks.row(longest, 0, 2, weights);
        due("19 wanted of 20", longest.mean(0, 2, 0, 20, 20, 1, 99, 0, 0), 19 * 99 - 20);
        due("1 weight", longest.mean(0, 2, 19, 1, 2, 1, 9, 5, 0), 8);
        due("fault()", longest.fault(), 0);
    }

    private static void meanRefused() {
        IceSlab slab = new IceSlab();
        int[] cells = new int[60];
        cells[0] = 1;
        cells[30] = 100;
        cells[40] = -1;
        Checks.row(slab, 1, 1, cells);
        due("as it should be", slab.mean(1, 1, 0, 20, 20, 99, 99, 99, 1), 1);
        due("sheet 4", slab.mean(4, 1, 0, 1, 0, 0, 0, 0, 0), LOST);
        due("lane 3", slab.mean(1, 3, 0, -1, 0, 0, 0, 0, 0), LOST);
        due("its fault", slab.fault(), 0);
        due("nothing", slab.mean(0, 1, 0, -1, 0, 0, 0, 0, 0), LOST);
        due("its fault", slab.fault(), 1);
        due("another lane", slab.mean(1, 2, 0, -1, 0, 0, 0, 0, 0), LOST);
        due("its fault", slab.fault(), 2);
        due("n below 0", slab.mean(1, 1, 61, -1, 0, 0, 0, 0, 0), LOST);
        due("its fault", slab.fault(), 4);
        due("beyond", slab.mean(1, 1, 50, 11, 21, 0, 0, 0, 0), LOST);
        due("its fault", slab.fault(), 3);
        due("no weights", slab.mean(1, 1, 0, 0, 0, 0, 0, 0, 0), LOST);
        due("its fault", slab.fault(), 0);
        due("21 weights", slab.mean(1, 1, 0, 21, 0, 0, 0, 0, 0), LOST);
        due("a weight of 100", slab.mean(1, 1, 30, 1, 0, 0, 0, 0, 0), LOST);
        due("a weight of -1", slab.mean(1, 1, 40, 1, 0, 0, 0, 0, 0), LOST);
        due("all 0", slab.mean(1, 1, 1, 20, 0, 0, 0, 0, 0), LOST);
        int[][] wrong = {{21, 0, 0, 0, 0}, {-1, 0, 0, 0, 0}, {0, 100, 0, 0, 0}, {0, -1, 0, 0, 0}, {0, 0, 100, 0, 0},
            {0, 0, -1, 0, 0}, {0, 0, 0, 100, 0}, {0, 0, 0, -1, 0}, {0, 0, 0, 0, 2}, {0, 0, 0, 0, -1}};
        for (int[] w : wrong) {
            due("outside", slab.mean(1, 1, 0, 1, w[0], w[1], w[2], w[3], w[4]), LOST);
        }
        due("fault()", slab.fault(), 0);
    }

    private static void howMany() {
        IceSlab slab = new IceSlab();
        Checks.row(slab, 1, 0, 99, 1, 2, 3, 99);
        due("4 for 9 or 1", slab.howMany(1, 0, 1, 3, 4, 9, 1), 2);
        due("8 for 9 or 1", slab.howMany(1, 0, 1, 3, 8, 9, 1), 0);
        due("6 for 8 or 0", slab.howMany(1, 0, 1, 3, 6, 8, 0), 1);
        due("4 for 8 or 0: as much with 2", slab.howMany(1, 0, 1, 3, 4, 8, 0), 1);
        due("all the same", slab.howMany(1, 0, 1, 3, 5, 5, 5), 0);
        due("more is better", slab.howMany(1, 0, 1, 3, 4, 9, 5), 20);
        due("fault()", slab.fault(), 0);
    }

    private static void howManyRefused() {
        IceSlab slab = new IceSlab();
        int[] cells = new int[60];
        cells[0] = 99;
        cells[30] = 100;
        cells[40] = -1;
        Checks.row(slab, 1, 1, cells);
        due("as it should be", slab.howMany(1, 1, 0, 20, 99, 99, 99), 0);
        due("sheet -1", slab.howMany(-1, 9, 0, 1, 0, 0, 0), -1);
        due("lane -1", slab.howMany(1, -1, 0, -1, 0, 0, 0), -2);
        due("nothing", slab.howMany(3, 1, 0, -1, 0, 0, 0), -11);
        due("another lane", slab.howMany(1, 0, 0, -1, 0, 0, 0), -12);
        due("n below 0", slab.howMany(1, 1, -1, -1, 0, 0, 0), -14);
        due("beyond", slab.howMany(1, 1, 60, 1, 0, 0, 0), -13);
        due("none, beyond", slab.howMany(1, 1, 61, 0, 0, 0, 0), -13);
        due("its fault", slab.fault(), 3);
        due("none, at the end", slab.howMany(1, 1, 60, 0, 0, 0, 0), -2);
        due("its fault", slab.fault(), 0);
        due("21 weights", slab.howMany(1, 1, 0, 21, 0, 0, 0), -2);
        due("a weight of 100", slab.howMany(1, 1, 30, 1, 0, 0, 0), -2);
        due("a weight of -1", slab.howMany(1, 1, 40, 1, 0, 0, 0), -2);
        due("all 0", slab.howMany(1, 1, 1, 20, 0, 0, 0), -2);
        int[][] wrong = {{100, 0, 0}, {-1, 0, 0}, {0, 100, 0}, {0, -1, 0}, {0, 0, 100}, {0, 0, -1}};
        for (int[] w : wrong) {
            due("outside", slab.howMany(1, 1, 0, 1, w[0], w[1], w[2]), -2);
        }
    }

    private static void right() {
        IceSlab slab = new IceSlab();
        due("new: right(1, 1, 0)", slab.right(1, 1, 0), LOST);
        Checks.tellText(slab, "h8;f1111");
        due("right(6, 4, 0)", slab.right(6, 4, 0), 12);
        due("right(1, 1, 0)", slab.right(1, 1, 0), 8);
        due("right(1, 8, 0)", slab.right(1, 8, 0), 1);
        due("right(1, 8, 1)", slab.right(1, 8, 1), 1);
        due("right(6, 4, 1)", slab.right(6, 4, 1), 1);
        due("right(5, 6, 0)", slab.right(5, 6, 0), 20);
        due("right(5, 6, 1)", slab.right(5, 6, 1), 3);
        due("right(99, 8, 0)", slab.right(99, 8, 0), 99);
        due("right(99, 7, 0)", slab.right(99, 7, 0), 792);
        due("right(99, 7, 1)", slab.right(99, 7, 1), 7);
        int[][] wrong = {{0, 1, 0}, {100, 1, 0}, {1, 0, 0}, {1, 9, 0}, {1, 1, 2}, {1, 1, -1}, {-1, 1, 0}, {1, -1, 0}};
        for (int[] w : wrong) {
            due("outside", slab.right(w[0], w[1], w[2]), LOST);
        }
    }

    private static int restsOf(int... numbers) {
        IceSlab slab = new IceSlab();
        Checks.row(slab, 2, 0, numbers);
        return slab.rests(2, 0, 0);
    }

    private static void rests() {
        due("none rests", restsOf(3, 1, 0, 4, 2, 2, 1, 0), 0);
        due("both do as the other", restsOf(1, 1, 0, 0, 0, 0, 2, 2), 9);
        due("both do what the other doesn't", restsOf(0, 0, 1, 1, 2, 2, 0, 0), 6);
        due("all the same", restsOf(0, 0, 0, 0, 0, 0, 0, 0), 15);
        due("take off, wait", restsOf(0, 0, 5, 5, 0, 0, 0, 0), 2 | 4);
        due("the first one alone", restsOf(9, 9, 5, 5, 4, 4, 3, 3), 1);
        due("the second one alone", restsOf(5, 5, 9, 9, 3, 3, 4, 4), 2);
        due("the third one alone", restsOf(5, 5, 4, 4, 9, 9, 6, 6), 4);
        due("the last one alone", restsOf(-99, -99, -5, -5, -6, -6, 99, 99), 8);
        due("the seller's numbers alone", restsOf(1, 0, 0, 0, 0, 0, 1, 0), 9);
        due("the buyer's numbers alone", restsOf(0, 1, 0, 0, 0, 0, 0, 1), 9);
    }

    private static void dueMixed(int[] numbers, long[] due) {
        IceSlab slab = new IceSlab();
        slab.sheet(3, 1, 10);
        for (int i = 0; i < 8; i++) {
            slab.put(3, i + 1, numbers[i]);
        }
        for (int i = 0; i < 4; i++) {
            due("mixed(.., " + i / 2 + ", " + i % 2 + ")", slab.mixed(3, 1, 1, i / 2, i % 2), due[i]);
        }
        due("fault()", slab.fault(), 0);
    }

    private static void mixed() {
        long[] none = {LOST, LOST, LOST, LOST};
        dueMixed(new int[] {3, 1, 0, 4, 2, 2, 1, 0}, new long[] {2, 5, 1, 2});
        dueMixed(new int[] {1, 1, 0, 0, 0, 0, 2, 2}, new long[] {2, 3, 2, 3});
        dueMixed(new int[] {-1, -1, 0, 0, 0, 0, -3, -3}, new long[] {3, 4, 3, 4});
        dueMixed(new int[] {99, -99, -99, 99, -99, 99, 99, -99}, new long[] {1, 2, 1, 2});
        dueMixed(new int[] {0, 0, 0, 0, 0, 0, 0, 0}, none);
        // 0 and 1 are no such odds; odds of one alone are none; nor is there one, if it is always more.
        dueMixed(new int[] {1, 1, 0, 0, 0, 0, 2, 0}, none);
        dueMixed(new int[] {1, 1, 0, 0, 0, 0, 0, 2}, none);
        dueMixed(new int[] {-1, -1, 0, 0, 0, 0, 0, -3}, none);
        dueMixed(new int[] {-1, -1, 0, 0, 0, 0, -3, 0}, none);
        dueMixed(new int[] {0, -1, 0, 0, 0, 0, -3, -3}, none);
        dueMixed(new int[] {-1, 0, 0, 0, 0, 0, -3, -3}, none);
        dueMixed(new int[] {7, -1, 7, 0, 0, 0, 0, -3}, none);
        dueMixed(new int[] {1, 0, 0, 0, 0, 0, 2, 2}, none);
        dueMixed(new int[] {0, 1, 0, 0, 0, 0, 2, 2}, none);
        dueMixed(new int[] {5, 1, 5, 0, 1, 0, 1, 2}, none);
        dueMixed(new int[] {3, 3, 0, 0, 0, 2, 2, 0}, none);
    }

    private static void gamesRefused() {
        IceSlab slab = new IceSlab();
        int[] cells = new int[20];
        cells[18] = 100;
        cells[9] = -100;
        Checks.row(slab, 0, 2, cells);
        due("rests: as it should be", slab.rests(0, 2, 1), 15);
        due("rests: -100", slab.rests(0, 2, 2), -2);
        due("rests: 100", slab.rests(0, 2, 11), -2);
        due("rests: amid both", slab.rests(0, 2, 10), 15);
        due("rests: beyond", slab.rests(0, 2, 13), -13);
        due("rests: its fault", slab.fault(), 3);
        due("rests: i below 0", slab.rests(0, 2, -1), -13);
        due("rests: far beyond", slab.rests(0, 2, Integer.MAX_VALUE), -13);
        due("rests: another lane", slab.rests(0, 1, -1), -12);
        due("rests: nothing", slab.rests(1, 1, -1), -11);
        due("rests: lane 3", slab.rests(0, 3, 0), -2);
        due("rests: sheet 4", slab.rests(4, 3, 0), -1);
        due("rests: its fault", slab.fault(), 0);
        Checks.row(slab, 1, 0, 3, 1, 0, 4, 2, 2, 1, 0, 100);
        due("mixed: as it should be", slab.mixed(1, 0, 0, 0, 0), 2);
        due("mixed: a number", slab.mixed(1, 0, 1, 0, 0), LOST);
        due("mixed: its fault", slab.fault(), 0);
        due("mixed: what 2", slab.mixed(1, 0, 0, 2, 0), LOST);
        due("mixed: what -1", slab.mixed(1, 0, 0, -1, 0), LOST);
        due("mixed: which 2", slab.mixed(1, 0, 0, 0, 2), LOST);
        due("mixed: which -1", slab.mixed(1, 0, 0, 1, -1), LOST);
        due("mixed: beyond", slab.mixed(1, 0, 2, 9, 9), LOST);
        due("mixed: its fault", slab.fault(), 3);
        due("mixed: another lane", slab.mixed(1, 1, 0, 0, 0), LOST);
        due("mixed: its fault", slab.fault(), 2);
        due("mixed: nothing", slab.mixed(2, 1, 0, 0, 0), LOST);
        due("mixed: its fault", slab.fault(), 1);
        due("mixed: lane -1", slab.mixed(2, -1, 0, 0, 0), LOST);
        due("mixed: its fault", slab.fault(), 0);
        due("mixed: sheet 4", slab.mixed(4, 0, 0, 0, 0), LOST);
    }
}
