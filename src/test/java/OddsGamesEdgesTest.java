import java.util.Arrays;

/** Promises 22 to 26: each sentence of the document that names an edge, by itself. */
public final class OddsGamesEdgesTest {
    private static final long LOST = Long.MIN_VALUE;
    private static final Checks CHECKS = new Checks();
    private static final Refused MEAN = Refused.naming(CHECKS, "mean",
        (x, a) -> x.mean(a[0], a[1], a[2], a[3], a[4], a[5], a[6], a[7], a[8]));
    private static final Refused HOW_MANY = Refused.naming(CHECKS, "howMany",
        (x, a) -> x.howMany(a[0], a[1], a[2], a[3], a[4], a[5], a[6]));
    private static final Refused RIGHT = Refused.notNaming(CHECKS, "right", (x, a) -> x.right(a[0], a[1], a[2]));
    private static final Refused RESTS = Refused.naming(CHECKS, "rests", (x, a) -> x.rests(a[0], a[1], a[2]));
    private static final Refused MIXED =
        Refused.naming(CHECKS, "mixed", (x, a) -> x.mixed(a[0], a[1], a[2], a[3], a[4]));
    private static final int MIN = Integer.MIN_VALUE, MAX = Integer.MAX_VALUE;
    private static final int NULL = 1, CAST = 2, INDEX = 3, SIZE = 4;

    public static void main(String[] args) {
        oneToTwentyWeights();
        weightsUpToNinetyNine();
        weightsNotAllZero();
        weightsOfTakenCellsOnly();
        weightsOfEachLane();
        fetchedUpToTwenty();
        moneyUpToNinetyNine();
        meanOfNoneFetched();
        meanOfNoneWanted();
        meanOfMoreThanIsWanted();
        meanOfZero();
        meanBelowZero();
        meanInLeastTerms();
        meanFarthest();
        weightsBehindOthers();
        meanNumbersOutside();
        meanWhich();
        meanSheetsAndLanes();
        meanFaults();
        meanIndexOfNoCells();
        meanOrder();

        howManyOfSeveralTheLeast();
        howManyNone();
        howManyTwentyAtMost();
        howManyOneAndNineteen();
        howManyWeights();
        howManyMoney();
        howManySheetsAndLanes();
        howManyFaults();
        howManyIndexOfNoCells();
        howManyOrder();

        rightOfAllHours();
        rightUpToNinetyNine();
        rightUpToHours();
        rightInLeastTerms();
        rightWhich();
        rightWithoutStall();

        restsWhereAsMuch();
        restsNowhere();
        restsByEachAlone();
        gameNumbers();
        restsNumbersOutside();
        gameOfEightCells();
        restsSheetsAndLanes();
        restsFaults();
        restsOrder();

        mixedAboveZero();
        mixedBelowOne();
        mixedWhereAllOddsDo();
        mixedWhereNoOddsDo();
        mixedEitherMissing();
        mixedInLeastTerms();
        mixedNearestToZeroAndOne();
        mixedNumbersOutside();
        gameBehindAnother();
        mixedWhatAndWhich();
        mixedSheetsAndLanes();
        mixedFaults();
        mixedOrder();
        CHECKS.end("OddsGamesEdgesTest");
    }

    private static void due(String call, long got, long want) {
        CHECKS.due(call, got, want);
    }

    private static IceSlab rowOf(int... numbers) {
        IceSlab slab = new IceSlab();
        Checks.row(slab, 0, 2, numbers);
        return slab;
    }

    /** MEAN of q, by these weights. */
    private static void dueMean(long upper, long lower, int q, int c, int p, int o, int... weights) {
        IceSlab slab = rowOf(weights);
        String told = "mean of q " + q + ", c " + c + ", p " + p + ", o " + o;
        due(told + ", upper", slab.mean(0, 2, 0, weights.length, q, c, p, o, 0), upper);
        due(told + ", lower", slab.mean(0, 2, 0, weights.length, q, c, p, o, 1), lower);
        due("fault() behind " + told, slab.fault(), 0);
    }

    private static void dueHowMany(int q, int c, int p, int o, int... weights) {
        IceSlab slab = rowOf(weights);
        due("howMany of c " + c + ", p " + p + ", o " + o, slab.howMany(0, 2, 0, weights.length, c, p, o), q);
        due("its fault()", slab.fault(), 0);
    }

    /** n weights of 1 each. */
    private static int[] ones(int n) {
        int[] weights = new int[n];
        Arrays.fill(weights, 1);
        return weights;
    }

    // ---- Promise 22

    /** "n weights (1 to 20 ..)" */
    private static void oneToTwentyWeights() {
        dueMean(10 * 9 - 20, 1, 20, 1, 9, 0, withLast(11, 5));
        dueMean(19 * 9 - 20, 1, 20, 1, 9, 0, withLast(20, 5));
        dueMean(-20, 1, 20, 1, 9, 0, 5);
        IceSlab slab = rowOf(ones(30));
        due("none", slab.mean(0, 2, 0, 0, 0, 0, 0, 0, 0), LOST);
        due("its fault", slab.fault(), 0);
        due("20", slab.mean(0, 2, 10, 20, 0, 0, 0, 0, 0), 0);
        due("21", slab.mean(0, 2, 0, 21, 0, 0, 0, 0, 0), LOST);
        due("its fault", slab.fault(), 0);
        due("30", slab.mean(0, 2, 0, 30, 0, 0, 0, 0, 0), LOST);
    }

    private static int[] withLast(int n, int weight) {
        int[] weights = new int[n];
        weights[n - 1] = weight;
        return weights;
    }

    /** "(.. 0 .. 99 ..)" of each weight, the first, one amid, the last. */
    private static void weightsUpToNinetyNine() {
        dueMean(1, 1, 1, 0, 2, 0, 99, 99);
        int[] wrong = {-1, 100, MIN, MAX};
        for (int weight : wrong) {
            for (int place = 0; place < 20; place++) {
                int[] weights = ones(20);
                weights[place] = weight;
                IceSlab slab = rowOf(weights);
                due(weight + " at " + place, slab.mean(0, 2, 0, 20, 0, 0, 0, 0, 1), LOST);
                due("its fault", slab.fault(), 0);
                due("howMany", slab.howMany(0, 2, 0, 20, 0, 0, 0), -2);
            }
        }
    }

    /** "not all 0" */
    private static void weightsNotAllZero() {
        IceSlab slab = rowOf(new int[21]);
        slab.put(0, 20, 1);
        due("one 0", slab.mean(0, 2, 0, 1, 0, 0, 0, 0, 1), LOST);
        due("twenty", slab.mean(0, 2, 0, 20, 0, 0, 0, 0, 1), LOST);
        due("its fault", slab.fault(), 0);
        due("but one", slab.mean(0, 2, 1, 20, 0, 0, 0, 0, 1), 1);
        due("howMany of one 0", slab.howMany(0, 2, 0, 1, 0, 0, 0), -2);
        due("howMany of twenty", slab.howMany(0, 2, 0, 20, 0, 0, 0), -2);
        due("howMany, but one", slab.howMany(0, 2, 1, 20, 0, 0, 0), 0);
        Checks.row(slab, 0, 2, -1, 1);
        due("1 and -1 are 0 together", slab.mean(0, 2, 0, 2, 0, 0, 0, 0, 1), LOST);
    }

    /** "by n weights from cell i on": a wrong number beside them is none of theirs. */
    private static void weightsOfTakenCellsOnly() {
        IceSlab slab = rowOf(100, 0, 3, -1);
        due("0 or 1 wanted", slab.mean(0, 2, 1, 2, 1, 1, 5, 0, 0), 4);
        due("howMany", slab.howMany(0, 2, 1, 2, 1, 5, 0), 1);
    }

    /** Rows of all LANES. */
    private static void weightsOfEachLane() {
        for (int lane = 0; lane < 3; lane++) {
            IceSlab slab = new IceSlab();
            Checks.row(slab, 3, lane, 0, 99);
            due("mean, lane " + lane, slab.mean(3, lane, 0, 2, 1, 1, 5, 0, 0), 4);
            due("howMany, lane " + lane, slab.howMany(3, lane, 0, 2, 1, 5, 0), 1);
        }
    }

    /** "q fetched (0 .. 20)" */
    private static void fetchedUpToTwenty() {
        dueMean(0, 1, 0, 1, 9, 1, 0, 1);
        dueMean(9 + 19 - 20, 1, 20, 1, 9, 1, 0, 1);
        MEAN.loses(0, 2, 1, 1, 8, -1, 0, 0, 0, 0);
        MEAN.loses(0, 2, 1, 1, 8, 21, 0, 0, 0, 0);
        MEAN.loses(0, 2, 1, 1, 8, MIN, 0, 0, 0, 0);
        MEAN.loses(0, 2, 1, 1, 8, MAX, 0, 0, 0, 0);
    }

    /** "each for c, sold for p, sold off for o (0 .. 99 each)" */
    private static void moneyUpToNinetyNine() {
        dueMean(-99, 1, 1, 99, 0, 0, 0, 1);
        dueMean(99, 1, 1, 0, 99, 0, 0, 1);
        dueMean(99, 1, 1, 0, 0, 99, 1);
        dueMean(0, 1, 1, 0, 0, 0, 1);
    }

    /** Of q 0: nothing had, nothing paid. */
    private static void meanOfNoneFetched() {
        dueMean(0, 1, 0, 99, 99, 99, 3, 4, 5);
    }

    /** "weights .. of 0 ..": none wanted, all sold off. */
    private static void meanOfNoneWanted() {
        dueMean(3 * 4 - 3 * 9, 1, 3, 9, 99, 4, 7);
    }

    /** As many as are wanted are sold, the rest is sold off; more wanted than fetched are not had. */
    private static void meanOfMoreThanIsWanted() {
        dueMean(2 * 10 + 2 - 3 * 5, 1, 3, 5, 10, 2, 0, 0, 1);
        dueMean(3 * 10 - 3 * 5, 1, 3, 5, 10, 2, 0, 0, 0, 1);
        dueMean(3 * 10 - 3 * 5, 1, 3, 5, 10, 2, 0, 0, 0, 0, 1);
    }

    /** 0 in least terms is 0 of 1. */
    private static void meanOfZero() {
        dueMean(0, 1, 1, 4, 8, 0, 5, 5);
        dueMean(0, 1, 20, 99, 99, 99, 98, 97, 96);
    }

    /** Below 0 the upper number is, the lower is above 0. */
    private static void meanBelowZero() {
        dueMean(-1, 2, 1, 1, 1, 0, 5, 5);
        dueMean(-5, 3, 1, 2, 1, 0, 2, 1);
    }

    /** "upper and lower number (above 0) in least terms" */
    private static void meanInLeastTerms() {
        dueMean(1, 2, 1, 0, 1, 0, 99, 99);
        dueMean(2, 3, 1, 0, 1, 0, 33, 66);
        dueMean(6, 1, 1, 0, 6, 6, 99, 98);
        dueMean(1, 99, 1, 0, 1, 0, 98, 1);
    }

    /** The greatest and the least that there can be. */
    private static void meanFarthest() {
        dueMean(1980, 1, 20, 0, 0, 99, 99);
        int[] all = new int[20];
        Arrays.fill(all, 99);
        dueMean(-1980, 1, 20, 99, 0, 0, all);
        dueMean(1980, 1, 20, 0, 99, 99, all);
        dueMean(19 * 99, 2, 20, 0, 99, 0, all);
    }

    /** Weights that are refused are no other ones, either. */
    private static void weightsBehindOthers() {
        IceSlab slab = rowOf(0, 1, 0, 0, 100);
        due("mean of the first two", slab.mean(0, 2, 0, 2, 1, 1, 5, 0, 0), 4);
        due("mean of two zeros", slab.mean(0, 2, 2, 2, 1, 1, 5, 0, 0), LOST);
        due("mean of a weight of 100", slab.mean(0, 2, 3, 2, 1, 1, 5, 0, 0), LOST);
        due("mean beyond", slab.mean(0, 2, 4, 2, 1, 1, 5, 0, 0), LOST);
        due("howMany of the first two", slab.howMany(0, 2, 0, 2, 1, 5, 0), 1);
        due("howMany of the first one", slab.howMany(0, 2, 0, 1, 1, 5, 0), -2);
        due("mean of one more", slab.mean(0, 2, 1, 1, 1, 1, 5, 0, 0), -1);
    }

    /** "OUTSIDE: .. c, p, o": each alone. */
    private static void meanNumbersOutside() {
        int[] wrong = {-1, 100, MIN, MAX};
        for (int money : wrong) {
            MEAN.loses(0, 2, 1, 1, 8, 1, money, 0, 0, 0);
            MEAN.loses(0, 2, 1, 1, 8, 1, 0, money, 0, 0);
            MEAN.loses(0, 2, 1, 1, 8, 1, 0, 0, money, 0);
        }
    }

    /** "upper number (which 0), lower (1)", "OUTSIDE: .. which" */
    private static void meanWhich() {
        MEAN.loses(0, 2, 1, 1, 8, 1, 0, 0, 0, -1);
        MEAN.loses(0, 2, 1, 1, 8, 1, 0, 0, 0, 2);
        MEAN.loses(0, 2, 1, 1, 8, 1, 0, 0, 0, MIN);
        MEAN.loses(0, 2, 1, 1, 8, 1, 0, 0, 0, MAX);
    }

    /** "LOST: UNKNOWN: SHEET; OUTSIDE: lane" */
    private static void meanSheetsAndLanes() {
        MEAN.loses(0, -1, 1, 1, 8, 1, 1, 1, 1, 0);
        MEAN.loses(0, 4, 1, 1, 8, 1, 1, 1, 1, 0);
        MEAN.loses(0, MAX, 1, 1, 8, 1, 1, 1, 1, 0);
        MEAN.loses(0, 2, -1, 1, 8, 1, 1, 1, 1, 0);
        MEAN.loses(0, 2, 3, 1, 8, 1, 1, 1, 1, 0);
    }

    /** "CAST; NULL; SIZE; INDEX", "(LOST, where a long is answered ..)" */
    private static void meanFaults() {
        MEAN.loses(CAST, 2, 0, 1, 8, 1, 1, 1, 1, 0);
        MEAN.loses(CAST, 2, 2, 1, 8, 1, 1, 1, 1, 0);
        MEAN.loses(NULL, 3, 1, 1, 8, 1, 1, 1, 1, 0);
        MEAN.loses(SIZE, 2, 1, 1, -1, 1, 1, 1, 1, 0);
        MEAN.loses(SIZE, 2, 1, 1, MIN, 1, 1, 1, 1, 0);
        MEAN.loses(INDEX, 2, 1, -1, 8, 1, 1, 1, 1, 0);
        MEAN.loses(INDEX, 2, 1, 2, 8, 1, 1, 1, 1, 0);
        MEAN.loses(INDEX, 2, 1, MAX, 1, 1, 1, 1, 1, 0);
        MEAN.loses(INDEX, 2, 1, 1, MAX, 1, 1, 1, 1, 0);
    }

    /** "INDEX (.. if none of them is taken, too)" */
    private static void meanIndexOfNoCells() {
        MEAN.loses(INDEX, 2, 1, -1, 0, 1, 1, 1, 1, 0);
        MEAN.loses(INDEX, 2, 1, 10, 0, 1, 1, 1, 1, 0);
        MEAN.loses(0, 2, 1, 9, 0, 1, 1, 1, 1, 0);
    }

    /** "in the order": seen by fault(), as all answer LOST. */
    private static void meanOrder() {
        MEAN.loses(0, 4, 3, -1, -1, -1, -1, -1, -1, 2);
        MEAN.loses(0, 3, 3, -1, -1, -1, -1, -1, -1, 2);
        MEAN.loses(0, 2, 3, -1, -1, -1, -1, -1, -1, 2);
        MEAN.loses(NULL, 3, 1, -1, -1, -1, -1, -1, -1, 2);
        MEAN.loses(CAST, 2, 0, -1, -1, -1, -1, -1, -1, 2);
        MEAN.loses(SIZE, 2, 1, -1, -1, -1, -1, -1, -1, 2);
        MEAN.loses(INDEX, 2, 1, 0, 21, 21, 100, 100, 100, 2);
    }

    // ---- Promise 23

    /** "of several the least" */
    private static void howManyOfSeveralTheLeast() {
        dueHowMany(0, 5, 5, 5, 1, 1);
        dueHowMany(1, 4, 8, 0, 0, 5, 5);
        dueHowMany(0, 4, 8, 0, 5, 5);
        dueHowMany(0, 0, 0, 0, 99);
    }

    /** "q fetched (0 ..": none. */
    private static void howManyNone() {
        dueHowMany(0, 9, 8, 0, 0, 0, 0, 1);
        dueHowMany(0, 1, 99, 0, 1);
        dueHowMany(1, 0, 1, 0, 0, 1);
    }

    /** "(0 .. 20)": no more than 20, though each more is better. */
    private static void howManyTwentyAtMost() {
        dueHowMany(20, 0, 0, 1, 1);
        dueHowMany(20, 4, 9, 5, 1, 2, 3);
    }

    /** Of 1 wanted at most, of 19 wanted at most. */
    private static void howManyOneAndNineteen() {
        dueHowMany(1, 1, 9, 0, 0, 99);
        dueHowMany(19, 1, 9, 0, withLast(20, 1));
        dueHowMany(18, 1, 9, 1, withLast(19, 1));
    }

    /** "OUTSIDE: n, a weight, all 0" */
    private static void howManyWeights() {
        HOW_MANY.answers(-2, 2, 1, 1, 0, 1, 1, 1);
        HOW_MANY.answers(-2, 1, 0, 0, 5, 1, 1, 1);
        HOW_MANY.answers(-2, 2, 1, 0, 2, 1, 1, 1);
        IceSlab slab = rowOf(ones(30));
        due("20", slab.howMany(0, 2, 0, 20, 0, 0, 0), 0);
        due("21", slab.howMany(0, 2, 0, 21, 0, 0, 0), -2);
        due("30", slab.howMany(0, 2, 0, 30, 0, 0, 0), -2);
        due("1", slab.howMany(0, 2, 0, 1, 0, 0, 0), 0);
        due("0", slab.howMany(0, 2, 0, 0, 0, 0, 0), -2);
        due("its fault", slab.fault(), 0);
    }

    /** "c, p, o (0 .. 99 each)": each alone. */
    private static void howManyMoney() {
        dueHowMany(0, 99, 99, 99, 1, 1);
        dueHowMany(1, 98, 99, 0, 0, 1);
        int[] wrong = {-1, 100, MIN, MAX};
        for (int money : wrong) {
            HOW_MANY.answers(-2, 2, 1, 1, 8, money, 0, 0);
            HOW_MANY.answers(-2, 2, 1, 1, 8, 0, money, 0);
            HOW_MANY.answers(-2, 2, 1, 1, 8, 0, 0, money);
        }
    }

    /** "UNKNOWN: SHEET; OUTSIDE: lane" */
    private static void howManySheetsAndLanes() {
        HOW_MANY.answers(-1, -1, 1, 1, 8, 1, 1, 1);
        HOW_MANY.answers(-1, 4, 1, 1, 8, 1, 1, 1);
        HOW_MANY.answers(-2, 2, -1, 1, 8, 1, 1, 1);
        HOW_MANY.answers(-2, 2, 3, 1, 8, 1, 1, 1);
    }

    /** "CAST; NULL; SIZE; INDEX" */
    private static void howManyFaults() {
        HOW_MANY.faults(CAST, 2, 0, 1, 8, 1, 1, 1);
        HOW_MANY.faults(CAST, 1, 2, 0, 1, 1, 1, 1);
        HOW_MANY.faults(NULL, 3, 1, 1, 8, 1, 1, 1);
        HOW_MANY.faults(SIZE, 2, 1, 1, -1, 1, 1, 1);
        HOW_MANY.faults(SIZE, 2, 1, 1, MIN, 1, 1, 1);
        HOW_MANY.faults(INDEX, 2, 1, -1, 8, 1, 1, 1);
        HOW_MANY.faults(INDEX, 2, 1, 2, 8, 1, 1, 1);
        HOW_MANY.faults(INDEX, 2, 1, 9, 1, 1, 1, 1);
        HOW_MANY.faults(INDEX, 2, 1, MAX, MAX, 1, 1, 1);
    }

    /** "INDEX (.. if none of them is taken, too)" */
    private static void howManyIndexOfNoCells() {
        HOW_MANY.faults(INDEX, 2, 1, -1, 0, 1, 1, 1);
        HOW_MANY.faults(INDEX, 2, 1, 10, 0, 1, 1, 1);
        HOW_MANY.answers(-2, 2, 1, 9, 0, 1, 1, 1);
    }

    /** "of several the first in the order in which a call's line tells them" */
    private static void howManyOrder() {
        HOW_MANY.answers(-1, 4, 3, -1, -1, -1, -1, -1);
        HOW_MANY.answers(-2, 3, 3, -1, -1, -1, -1, -1);
        HOW_MANY.faults(NULL, 3, 0, -1, -1, -1, -1, -1);
        HOW_MANY.faults(CAST, 2, 0, -1, -1, -1, -1, -1);
        HOW_MANY.faults(SIZE, 2, 1, -1, -1, -1, -1, -1);
        HOW_MANY.faults(INDEX, 2, 1, 0, 21, -1, -1, -1);
    }

    // ---- Promise 24

    private static void dueRight(IceSlab slab, int sold, int t, long upper, long lower) {
        due("right(" + sold + ", " + t + ", 0)", slab.right(sold, t, 0), upper);
        due("right(" + sold + ", " + t + ", 1)", slab.right(sold, t, 1), lower);
    }

    /** "as many as would have been, by that, in all HOURS": behind all of them as many as were. */
    private static void rightOfAllHours() {
        for (int hours = 1; hours <= 8; hours++) {
            IceSlab slab = Checks.stallOf("h" + hours + ";f1111");
            dueRight(slab, 7, hours, 7, 1);
            dueRight(slab, 1, 1, hours, 1);
        }
    }

    /** "so many were sold (1 .. 99)" */
    private static void rightUpToNinetyNine() {
        IceSlab slab = Checks.stallOf("h8;f1111");
        dueRight(slab, 1, 1, 8, 1);
        dueRight(slab, 99, 1, 792, 1);
        dueRight(slab, 99, 8, 99, 1);
        RIGHT.loses(0, 0, 1, 0);
        RIGHT.loses(0, 100, 1, 0);
        RIGHT.loses(0, -1, 1, 0);
        RIGHT.loses(0, MIN, 1, 0);
        RIGHT.loses(0, MAX, 1, 0);
    }

    /** "behind t (1 .. HOURS) HOURS" */
    private static void rightUpToHours() {
        RIGHT.loses(0, 1, 0, 0);
        RIGHT.loses(0, 1, 4, 0);
        RIGHT.loses(0, 1, -1, 0);
        RIGHT.loses(0, 1, MIN, 0);
        RIGHT.loses(0, 1, MAX, 0);
        for (int hours = 1; hours <= 8; hours++) {
            IceSlab slab = Checks.stallOf("h" + hours + ";f1111");
            dueRight(slab, 3, hours, 3, 1);
            dueRight(slab, 3, hours + 1, LOST, LOST);
        }
    }

    /** "(a share)": in least terms. */
    private static void rightInLeastTerms() {
        IceSlab slab = Checks.stallOf("h8;f1111");
        dueRight(slab, 1, 3, 8, 3);
        dueRight(slab, 3, 6, 4, 1);
        dueRight(slab, 5, 6, 20, 3);
        dueRight(slab, 99, 7, 792, 7);
    }

    /** which 0, 1 alone. */
    private static void rightWhich() {
        RIGHT.loses(0, 1, 1, -1);
        RIGHT.loses(0, 1, 1, 2);
        RIGHT.loses(0, 1, 1, MIN);
        RIGHT.loses(0, 1, 1, MAX);
    }

    /** "LOST: STATE: there is no STALL" */
    private static void rightWithoutStall() {
        for (int t = -1; t <= 8; t++) {
            RIGHT.in(IceSlab::new).loses(0, 1, t, 0);
            RIGHT.in(IceSlab::new).loses(0, 1, t, 1);
        }
    }

    // ---- Promise 25

    private static void dueRests(int bits, int... numbers) {
        IceSlab slab = rowOf(numbers);
        due("rests " + Arrays.toString(numbers), slab.rests(0, 2, 0), bits);
        due("its fault()", slab.fault(), 0);
    }

    /** "where neither would have more": as much is not more. */
    private static void restsWhereAsMuch() {
        dueRests(15, 0, 0, 0, 0, 0, 0, 0, 0);
        dueRests(15, -99, 99, -99, 99, -99, 99, -99, 99);
        dueRests(15, 5, 1, 6, 1, 5, 2, 6, 2);
    }

    /** Nowhere: one of both always would have more. */
    private static void restsNowhere() {
        dueRests(0, 1, 0, 0, 1, 0, 1, 1, 0);
        dueRests(0, 0, 1, 1, 0, 1, 0, 0, 1);
    }

    /** "by doing the other thing alone": each number, one more, by itself; bits 0 .. 3 in order. */
    private static void restsByEachAlone() {
        // The seller has more in outcome 0 than in 2, in 1 than in 3; the buyer in 0 than in 1, in 2 than in 3.
        int[] due = {15 & ~4, 15 & ~2, 15 & ~8, 15 & ~1, 15 & ~1, 15 & ~8, 15 & ~2, 15 & ~4};
        for (int place = 0; place < 8; place++) {
            int[] numbers = new int[8];
            numbers[place] = 1;
            dueRests(due[place], numbers);
        }
    }

    /** "eight numbers (-99 .. 99)" */
    private static void gameNumbers() {
        dueRests(1, 99, 99, -99, -99, -99, -98, -98, -99);
        dueRests(9, 99, 99, -99, -99, -99, -99, 99, 99);
    }

    /** "OUTSIDE: a number": each place. */
    private static void restsNumbersOutside() {
        int[] wrong = {-100, 100, MIN, MAX};
        for (int number : wrong) {
            for (int place = 0; place < 8; place++) {
                IceSlab slab = rowOf(new int[8]);
                slab.put(0, place, number);
                due(number + " at " + place, slab.rests(0, 2, 0), -2);
                due("its fault", slab.fault(), 0);
            }
        }
        RESTS.answers(-2, 2, 1, 0);
    }

    /** "eight cells from i on": no more, no less. */
    private static void gameOfEightCells() {
        IceSlab slab = rowOf(100, 0, 0, 0, 0, 0, 0, 0, 0, 100);
        due("the eight amid", slab.rests(0, 2, 1), 15);
        due("the first eight", slab.rests(0, 2, 0), -2);
        due("the last eight", slab.rests(0, 2, 2), -2);
        due("seven", slab.rests(0, 2, 3), -13);
        for (int lane = 0; lane < 3; lane++) {
            Checks.row(slab, 0, lane, new int[60]);
            due("the last of 60", slab.rests(0, lane, 52), 15);
            due("one too few", slab.rests(0, lane, 53), -13);
            Checks.row(slab, 0, lane, new int[8]);
            due("eight", slab.rests(0, lane, 0), 15);
            Checks.row(slab, 0, lane, new int[7]);
            due("seven", slab.rests(0, lane, 0), -13);
            due("its fault", slab.fault(), 3);
            Checks.row(slab, 0, lane);
            due("none", slab.rests(0, lane, 0), -13);
        }
    }

    /** "UNKNOWN: SHEET; OUTSIDE: lane" */
    private static void restsSheetsAndLanes() {
        RESTS.answers(-1, -1, 1, 1);
        RESTS.answers(-1, 4, 1, 1);
        RESTS.answers(-1, MIN, 1, 1);
        RESTS.answers(-2, 2, -1, 1);
        RESTS.answers(-2, 2, 3, 1);
    }

    /** "CAST; NULL; INDEX" */
    private static void restsFaults() {
        RESTS.faults(CAST, 2, 0, 1);
        RESTS.faults(CAST, 2, 2, 1);
        RESTS.faults(NULL, 3, 1, 1);
        RESTS.faults(INDEX, 2, 1, -1);
        RESTS.faults(INDEX, 2, 1, 2);
        RESTS.faults(INDEX, 2, 1, MIN);
        RESTS.faults(INDEX, 2, 1, MAX);
        RESTS.faults(INDEX, 2, 1, MAX - 7);
    }

    /** "of several the first in the order in which a call's line tells them" */
    private static void restsOrder() {
        RESTS.answers(-1, 4, 3, -1);
        RESTS.answers(-2, 3, 3, -1);
        RESTS.faults(NULL, 3, 0, -1);
        RESTS.faults(CAST, 2, 0, -1);
        RESTS.faults(INDEX, 0, 2, 7);
    }

    // ---- Promise 26

    /** Odds to TAKE OFF, to BUY. */
    private static void dueMixed(long offUpper, long offLower, long buyUpper, long buyLower, int... numbers) {
        IceSlab slab = rowOf(numbers);
        String told = "mixed " + Arrays.toString(numbers);
        due(told + ", to take off, upper", slab.mixed(0, 2, 0, 0, 0), offUpper);
        due(told + ", to take off, lower", slab.mixed(0, 2, 0, 0, 1), offLower);
        due(told + ", to buy, upper", slab.mixed(0, 2, 0, 1, 0), buyUpper);
        due(told + ", to buy, lower", slab.mixed(0, 2, 0, 1, 1), buyLower);
        due("fault() behind " + told, slab.fault(), 0);
    }

    private static void dueNoneSuch(int... numbers) {
        dueMixed(LOST, LOST, LOST, LOST, numbers);
    }

    /** "above 0" */
    private static void mixedAboveZero() {
        // The buyer has as much in 2 as in 3: odds of 0. The seller has as much in 1 as in 3: odds of 0.
        dueNoneSuch(1, 1, 0, 0, 0, 2, 2, 2);
        dueNoneSuch(1, 1, 2, 0, 0, 0, 2, 2);
        dueNoneSuch(1, -1, 0, 0, 0, -2, 2, -2);
        // Odds below 0.
        dueNoneSuch(1, 4, 0, 0, 0, 2, 2, 1);
        dueNoneSuch(4, 1, 2, 0, 0, 0, 1, 2);
    }

    /** "below 1" */
    private static void mixedBelowOne() {
        // The buyer has as much in 0 as in 1: odds of 1. The seller has as much in 0 as in 2: odds of 1.
        dueNoneSuch(1, 1, 0, 1, 0, 0, 2, 2);
        dueNoneSuch(1, 1, 0, 0, 1, 0, 2, 2);
        dueNoneSuch(1, -1, 0, -1, 0, 0, 2, -2);
        // Odds above 1.
        dueNoneSuch(1, 0, 0, 1, 0, 0, 2, 4);
        dueNoneSuch(0, 1, 0, 0, 1, 0, 4, 2);
    }

    /** Where any odds would do, there are none by which: 0 of 0. */
    private static void mixedWhereAllOddsDo() {
        dueNoneSuch(0, 0, 0, 0, 0, 0, 0, 0);
        dueNoneSuch(1, 5, 0, 5, 0, 7, 2, 7);
        dueNoneSuch(5, 1, 7, 0, 5, 0, 7, 2);
    }

    /** Where one thing is always better by as much: a number of 0. */
    private static void mixedWhereNoOddsDo() {
        dueNoneSuch(1, 3, 0, 4, 0, 3, 2, 4);
        dueNoneSuch(3, 1, 3, 0, 4, 0, 4, 2);
        dueNoneSuch(1, 4, 0, 3, 0, 4, 2, 3);
    }

    /** "(either of both is not)": then neither is told. */
    private static void mixedEitherMissing() {
        dueMixed(2, 3, 2, 3, 1, 1, 0, 0, 0, 0, 2, 2);
        dueNoneSuch(1, 0, 0, 0, 0, 0, 2, 2);
        dueNoneSuch(0, 1, 0, 0, 0, 0, 2, 2);
        dueNoneSuch(1, 1, 0, 0, 0, 0, 2, 0);
        dueNoneSuch(1, 1, 0, 0, 0, 0, 0, 2);
    }

    /** "upper and lower number (above 0) in least terms": also where both numbers are below 0. */
    private static void mixedInLeastTerms() {
        dueMixed(1, 2, 1, 2, 2, 2, 0, 0, 0, 0, 2, 2);
        dueMixed(1, 2, 1, 2, -2, -2, 0, 0, 0, 0, -2, -2);
        dueMixed(2, 3, 3, 4, -1, -3, 0, 0, 0, 0, -3, -6);
        dueMixed(1, 2, 1, 2, 99, -99, -99, 99, -99, 99, 99, -99);
    }

    /** The nearest that eight such numbers tell to 0 and to 1. */
    private static void mixedNearestToZeroAndOne() {
        dueMixed(1, 199, 198, 199, 1, 99, -99, -99, 0, 0, 99, 1);
        dueMixed(198, 199, 1, 199, 99, 1, 0, 0, -99, -99, 1, 99);
        dueMixed(1, 199, 198, 199, -1, -99, 99, 99, 0, 0, -99, -1);
        dueMixed(198, 199, 1, 199, -99, -1, 0, 0, 99, 99, -1, -99);
        dueMixed(1, 2, 1, 2, 1, 1, 0, 0, 0, 0, 1, 1);
        dueMixed(1, 2, 1, 2, -1, -1, 0, 0, 0, 0, -1, -1);
    }

    /** "OUTSIDE: a number": each place. */
    private static void mixedNumbersOutside() {
        int[] wrong = {-100, 100, MIN, MAX};
        for (int number : wrong) {
            for (int place = 0; place < 8; place++) {
                IceSlab slab = rowOf(2, 2, 0, 0, 0, 0, 2, 2);
                slab.put(0, place, number);
                due(number + " at " + place, slab.mixed(0, 2, 0, 0, 1), LOST);
                due("its fault", slab.fault(), 0);
            }
        }
    }

    /** A GAME that is refused is no other one, either. */
    private static void gameBehindAnother() {
        IceSlab slab = rowOf(1, 1, 0, 0, 0, 0, 2, 2, 100);
        due("mixed of the first", slab.mixed(0, 2, 0, 0, 0), 2);
        due("mixed of the second", slab.mixed(0, 2, 1, 0, 0), LOST);
        due("mixed of the third", slab.mixed(0, 2, 2, 0, 0), LOST);
        due("mixed of nothing", slab.mixed(1, 2, 0, 0, 0), LOST);
        due("rests of the first", slab.rests(0, 2, 0), 9);
        due("rests of the second", slab.rests(0, 2, 1), -2);
        due("mixed of the first", slab.mixed(0, 2, 0, 0, 1), 3);
    }

    /** "OUTSIDE: .. what, which" */
    private static void mixedWhatAndWhich() {
        int[] wrong = {-1, 2, MIN, MAX};
        for (int other : wrong) {
            MIXED.in(OddsGamesEdgesTest::withGame).loses(0, 0, 2, 0, other, 0);
            MIXED.in(OddsGamesEdgesTest::withGame).loses(0, 0, 2, 0, 0, other);
            MIXED.in(OddsGamesEdgesTest::withGame).loses(0, 0, 2, 0, 1, other);
        }
    }

    private static IceSlab withGame() {
        return rowOf(2, 2, 0, 0, 0, 0, 2, 2);
    }

    /** "LOST: UNKNOWN: SHEET; OUTSIDE: lane" */
    private static void mixedSheetsAndLanes() {
        MIXED.in(OddsGamesEdgesTest::withGame).loses(0, -1, 2, 0, 0, 0);
        MIXED.in(OddsGamesEdgesTest::withGame).loses(0, 4, 2, 0, 0, 0);
        MIXED.in(OddsGamesEdgesTest::withGame).loses(0, 0, -1, 0, 0, 0);
        MIXED.in(OddsGamesEdgesTest::withGame).loses(0, 0, 3, 0, 0, 0);
    }

    /** "CAST; NULL; INDEX" */
    private static void mixedFaults() {
        MIXED.in(OddsGamesEdgesTest::withGame).loses(CAST, 0, 0, 0, 0, 0);
        MIXED.in(OddsGamesEdgesTest::withGame).loses(CAST, 0, 1, 0, 0, 0);
        MIXED.in(OddsGamesEdgesTest::withGame).loses(NULL, 1, 2, 0, 0, 0);
        MIXED.in(OddsGamesEdgesTest::withGame).loses(INDEX, 0, 2, 1, 0, 0);
        MIXED.in(OddsGamesEdgesTest::withGame).loses(INDEX, 0, 2, -1, 0, 0);
        MIXED.in(OddsGamesEdgesTest::withGame).loses(INDEX, 0, 2, MIN, 0, 0);
        MIXED.in(OddsGamesEdgesTest::withGame).loses(INDEX, 0, 2, MAX, 0, 0);
    }

    /** "in the order": seen by fault(), as all answer LOST. */
    private static void mixedOrder() {
        MIXED.loses(0, 4, 3, -1, 2, 2);
        MIXED.loses(0, 3, 3, -1, 2, 2);
        MIXED.loses(0, 2, 3, -1, 2, 2);
        MIXED.loses(NULL, 3, 0, -1, 2, 2);
        MIXED.loses(CAST, 2, 0, -1, 2, 2);
        MIXED.loses(INDEX, 2, 1, 2, 2, 2);
    }
}
