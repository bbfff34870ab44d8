/** Promises 17 to 21: each sentence of the document that names an edge, by itself. */
public final class SearchEdgesTest {
    private static final Checks CHECKS = new Checks();
    private static final Refused BEST = Refused.notNaming(CHECKS, "best", (x, a) -> x.best(a[0], a[1], a[2]));
    private static final Refused TAKE_OFF = Refused.notNaming(CHECKS, "takeOff", (x, a) -> x.takeOff(a[0]));
    private static final Refused FETCH = Refused.notNaming(CHECKS, "fetch", (x, a) -> x.fetch(a[0]));
    private static final Refused CARRIED = Refused.notNaming(CHECKS, "carried", (x, a) -> x.carried(a[0]));
    private static final Refused COOK = Refused.notNaming(CHECKS, "cook", (x, a) -> x.cook(a[0], a[1], a[2]));
    private static final int MIN = Integer.MIN_VALUE, MAX = Integer.MAX_VALUE;

    public static void main(String[] args) {
        bestIsLeastOfSeveral();
        bestIsLeastWhereNobodyComes();
        bestMayBeZero();
        bestIsThirtyAtMost();
        bestWithoutFish();
        bestOfOneSortAndHour();
        bestBeside();
        bestBelowZero();
        bestChangesNothing();
        bestEdges();

        takeOffAtLeastOne();
        takeOffThirtyAtMost();
        takenOffPricesAreZeroAtLeast();
        takeOffOnlyIfMore();
        takeOffNothingAsItIs();
        takeOffFirstHour();
        takeOffFirstHourAheadOfLeastX();
        takeOffLeastX();
        takeOffFromTheLastHour();
        takeOffAllSorts();
        takeOffChangesNothing();
        takeOffEdges();
        takeOffWithoutStall();

        fetchNothing();
        fetchNineAtMost();
        fetchAnyNumber();
        fetchFirstAsARow();
        fetchFirstAsARowWithSoup();
        fetchLeastWhereSoupPaysAsMuch();
        fetchNineWhereSoupPaysMore();
        fetchWhateverLies();
        fetchOfFourSorts();
        fetchChangesNothing();
        fetchNoSuchSort();
        fetchEdges();
        fetchWithoutStall();
        fetchOrder();

        carriedWithoutFish();
        carriedBelowZero();
        carriedByBeside();
        carriedChangesNothing();
        carriedEdges();

        cookPrices();
        cookAheadOfAll();
        cookBehindEarlierHours();
        cookInTheLastHour();
        cookTakesAllThatLie();
        cookWhereNoneLie();
        cookLeavesOthers();
        cookChangesNothing();
        cookEdges();
        CHECKS.end("SearchEdgesTest");
    }

    private static void due(String call, long got, long want) {
        CHECKS.due(call, got, want);
    }

    private static IceSlab stall(String text, int... buyers) {
        return Checks.stallOf(text, buyers);
    }

    private static void dueBest(String told, IceSlab slab, int s, int t, int price, int profit) {
        due(told + ": best(" + s + ", " + t + ", 0)", slab.best(s, t, 0), price);
        due(told + ": best(" + s + ", " + t + ", 1)", slab.best(s, t, 1), profit);
    }

    private static void dueOff(String told, IceSlab slab, int profit, int hour, int x) {
        due(told + ": takeOff(0)", slab.takeOff(0), profit);
        due(told + ": takeOff(1)", slab.takeOff(1), hour);
        due(told + ": takeOff(2)", slab.takeOff(2), x);
    }

    private static void dueFetched(String told, IceSlab slab, int profit, int... row) {
        due(told + ": fetch(-1)", slab.fetch(-1), profit);
        for (int k = 0; k < row.length; k++) {
            due(told + ": fetch(" + k + ")", slab.fetch(k), row[k]);
        }
    }

    /** That what is asked has left all as it was. */
    private static void dueUnchanged(String told, IceSlab slab) {
        long[] due = Refused.seen(Refused.busy());
        long[] got = Refused.seen(slab);
        for (int i = 0; i < due.length; i++) {
            due(told + " leaves all as it was, answer " + i, got[i], due[i]);
        }
    }

    // ---- Promise 17

    /** "of several the least": two for 6 each, one for 12. */
    private static void bestIsLeastOfSeveral() {
        IceSlab slab = stall("h1;f9090", 0, 0, 12, 0, 0, 0, 6, 0);
        dueBest("6 twice or 12 once", slab, 0, 0, 6, 12);
        slab.buyer(0, 0, 4, 0);
        dueBest("4 thrice, too", slab, 0, 0, 4, 12);
    }

    /** The same of 0 .. 30 that are all alike. */
    private static void bestIsLeastWhereNobodyComes() {
        dueBest("nobody", stall("h2;f2390"), 0, 1, 0, -6);
        dueBest("in another hour", stall("h2;f2390", 0, 0, 9, 0), 0, 1, 0, 3);
    }

    /** "a price (0 .. 30)": for 0 he waits for what he then doesn't take; soup pays more than he. */
    private static void bestMayBeZero() {
        IceSlab slab = stall("h2;f1093", 2, 0, 1, 0);
        Checks.prices(slab, 0, 1, 30);
        slab.soup(5);
        dueBest("0 alone", slab, 0, 1, 0, 5);
        slab.write(0, 0, 0);
        dueBest("nothing is cheaper than 0", slab, 0, 1, 0, 0);
    }

    /** "a price (0 .. 30)": not what he would pay. */
    private static void bestIsThirtyAtMost() {
        dueBest("pays 40", stall("h1;f1090", 0, 0, 40, 0), 0, 0, 30, 30);
        dueBest("pays 30", stall("h1;f1090", 0, 0, 30, 0), 0, 0, 30, 30);
        dueBest("pays 29", stall("h1;f1090", 0, 0, 29, 0), 0, 0, 29, 29);
    }

    /** Of no FISH each price is as good. */
    private static void bestWithoutFish() {
        dueBest("no fish", stall("h1;f0990", 0, 0, 40, 0), 0, 0, 0, 0);
    }

    /** "of a SORT in an HOUR": the last of both; all other prices are those of THE SLATE. */
    private static void bestOfOneSortAndHour() {
        IceSlab slab = stall("h8;f9090;f9090;f9090;f9090", 0, 3, 20, 7, 0, 3, 20, 6, 0, 2, 20, 7);
        dueBest("sort 3, hour 7", slab, 3, 7, 20, 20 + 9 + 9);
        dueBest("sort 0, hour 0", slab, 0, 0, 0, 27);
    }

    /** With BESIDE the least price is that by which it is dearer, or one more than he pays. */
    private static void bestBeside() {
        IceSlab slab = stall("h1;f1090;f1090", 0, 0, 8, 0);
        slab.beside(true);
        dueBest("the dearer one", slab, 1, 0, 10, 9);
        slab.write(1, 0, 10);
        dueBest("beside the dearer one", slab, 0, 0, 9, 9);
        slab.write(1, 0, 9);
        dueBest("beside one as dear", slab, 0, 0, 8, 8);
    }

    /** "PROFIT with it (1)": below 0, also where it looks like a refusal. */
    private static void bestBelowZero() {
        dueBest("-1", stall("h1;f1190"), 0, 0, 0, -1);
        dueBest("-2", stall("h1;f2190"), 0, 0, 0, -2);
        dueBest("all of the dearest", stall("h1;f9990;f9990;f9990;f9990"), 0, 0, 0, -324);
    }

    /** "(THE SLATE, FISH stay as they are.)" */
    private static void bestChangesNothing() {
        IceSlab slab = Refused.busy();
        slab.best(0, 1, 0);
        slab.best(1, 2, 1);
        dueUnchanged("best", slab);
    }

    /** best: "UNKNOWN; OUTSIDE." */
    private static void bestEdges() {
        BEST.answers(-1, -1, 0, 0);
        BEST.answers(-1, 2, 0, 0);
        BEST.answers(-1, MAX, 0, 0);
        BEST.answers(-1, 0, -1, 0);
        BEST.answers(-1, 0, 3, 0);
        BEST.answers(-1, 0, MIN, 0);
        BEST.answers(-2, 0, 0, -1);
        BEST.answers(-2, 1, 2, 2);
        BEST.answers(-2, 1, 2, MIN);
        BEST.answers(-2, 1, 2, MAX);
        BEST.answers(-1, 2, 0, 2);
        BEST.answers(-1, 0, 3, 2);
        BEST.in(IceSlab::new).answers(-1, 0, 0, 0);
        BEST.in(IceSlab::new).answers(-1, 0, 0, 2);
    }

    // ---- Promise 18

    /** "x (1 .. 30)": the least. */
    private static void takeOffAtLeastOne() {
        dueOff("one off", stall("h1;f1090", 0, 0, 8, 0), 8, 0, 1);
        dueOff("none off", stall("h1;f1090", 0, 0, 9, 0), 9, -9, 0);
    }

    /** "x (1 .. 30)": the greatest; 30 less 30 is what he waits for, then doesn't take, so that soup pays more. */
    private static void takeOffThirtyAtMost() {
        IceSlab slab = stall("h2;f1093", 2, 0, 1, 0);
        Checks.prices(slab, 0, 1, 30);
        slab.soup(5);
        dueOff("30 off", slab, 5, 1, 30);
        slab.write(0, 1, 29);
        dueOff("29 off", slab, 5, 1, 29);
    }

    /** "less (0 at least)": who pays 0 has it for 0, who pays 10 for the dearer one pays all of that. */
    private static void takenOffPricesAreZeroAtLeast() {
        IceSlab slab = stall("h1;f1090;f1090", 0, 0, 2, 0, 0, 1, 10, 0);
        Checks.prices(slab, 0, 2);
        Checks.prices(slab, 1, 30);
        dueOff("2 less 20 is 0", slab, 10, 0, 20);
    }

    /** "if it is more than without": as much is not more. */
    private static void takeOffOnlyIfMore() {
        IceSlab slab = stall("h1;f2090", 0, 0, 8, 0, 0, 0, 4, 0);
        slab.write(0, 0, 8);
        dueOff("8 once or 4 twice", slab, 8, -9, 0);
        slab.buyer(0, 0, 1, 0);
        slab.fish(0, 3);
        dueOff("1 thrice", slab, 8, -9, 0);
        slab.buyer(0, 0, 4, 0);
        dueOff("4 thrice", slab, 12, 0, 4);
    }

    /** "PROFIT (what 0; as it is, if nothing is more), the HOUR (1; NONE), x (2; 0)" */
    private static void takeOffNothingAsItIs() {
        dueOff("nobody", stall("h8;f9990"), -81, -9, 0);
        dueOff("no fish", stall("h8;f0990", 0, 0, 5, 0), 0, -9, 0);
        IceSlab free = stall("h1;f1190", 0, 0, 40, 0);
        free.write(0, 0, 0);
        dueOff("nothing to take off", free, -1, -9, 0);
        IceSlab later = stall("h1;f1090", 0, 0, 5, 0);
        dueOff("4 off", later, 5, 0, 4);
        later.write(0, 0, 5);
        dueOff("nothing more", later, 5, -9, 0);
        due("a best price ahead of it", later.best(0, 0, 0), 5);
        due("takeOff(2)", later.takeOff(2), 0);
    }

    /** "of several the first HOUR" */
    private static void takeOffFirstHour() {
        dueOff("from 0, 1 or 2 on", stall("h3;f1090", 0, 0, 5, 2), 5, 0, 4);
        dueOff("from 1 or 2 on", stall("h3;f2090", 0, 0, 9, 0, 0, 0, 5, 2), 14, 1, 4);
    }

    /** "the first HOUR, then the least x": from 0 on 5 off bring 15, from 1 on 4 off do. */
    private static void takeOffFirstHourAheadOfLeastX() {
        IceSlab slab = stall("h2;f9090;f9090", 0, 0, 10, 0, 0, 0, 5, 0, 0, 0, 5, 1, 0, 1, 1, 0);
        Checks.prices(slab, 0, 10, 9);
        Checks.prices(slab, 1, 6, 9);
        due("as it is", slab.day(3), 10);
        dueOff("5 from hour 0 on", slab, 15, 0, 5);
        slab.write(1, 0, 7);
        dueOff("4 from hour 1 on", slab, 15, 1, 4);
    }

    /** "then the least x": 3 off bring 6 once, 6 off bring 3 twice. */
    private static void takeOffLeastX() {
        dueOff("3 or 6 off", stall("h1;f2090", 0, 0, 6, 0, 0, 0, 3, 0), 6, 0, 3);
    }

    /** "from an HOUR on": the last one, too; those ahead keep their prices. */
    private static void takeOffFromTheLastHour() {
        IceSlab slab = stall("h8;f9090", 0, 0, 5, 7);
        for (int x = 1; x < 8; x++) {
            slab.buyer(0, 0, 9, x - 1);
        }
        dueOff("from hour 7 on", slab, 7 * 9 + 5, 7, 4);
    }

    /** "all prices": of all SORTS, in that HOUR and all behind it. */
    private static void takeOffAllSorts() {
        dueOff("of four sorts", stall("h8;f1090;f1090;f1090;f1090", 0, 0, 5, 0, 0, 1, 5, 1, 0, 2, 5, 6, 0, 3, 5, 7),
            20, 0, 4);
    }

    /** "(THE SLATE, FISH stay as they are.)" */
    private static void takeOffChangesNothing() {
        IceSlab slab = Refused.busy();
        slab.takeOff(0);
        slab.takeOff(2);
        dueUnchanged("takeOff", slab);
    }

    /** takeOff: "OUTSIDE" */
    private static void takeOffEdges() {
        TAKE_OFF.answers(-2, -1);
        TAKE_OFF.answers(-2, 3);
        TAKE_OFF.answers(-2, MIN);
        TAKE_OFF.answers(-2, MAX);
    }

    /** "OUTSIDE; STATE: there is no STALL." */
    private static void takeOffWithoutStall() {
        for (int what = 0; what < 3; what++) {
            TAKE_OFF.in(IceSlab::new).answers(-3, what);
        }
        TAKE_OFF.in(IceSlab::new).answers(-2, 3);
        TAKE_OFF.in(IceSlab::new).answers(-2, -1);
    }

    // ---- Promise 19

    /** "FISH (0 .. 9)": none of any, so PROFIT is never below 0. */
    private static void fetchNothing() {
        dueFetched("nobody", stall("h1;f9190;f9190;f9190;f9190"), 0, 0, 0, 0, 0);
        dueFetched("too dear", stall("h1;f9990", 0, 0, 40, 0), 0, 0);
        IceSlab slab = stall("h1;f9990", 0, 0, 40, 0);
        slab.write(0, 0, 10);
        dueFetched("one more than it costs", slab, 1, 1);
    }

    /** "FISH (0 .. 9)": not ten, though ten want it. */
    private static void fetchNineAtMost() {
        IceSlab slab = Checks.stallOf("h1;f1190");
        for (int x = 0; x < 10; x++) {
            slab.buyer(0, 0, 40, 0);
        }
        dueFetched("ten want it", slab, 72, 9);
    }

    /** "FISH (0 .. 9)": as many as are wanted. */
    private static void fetchAnyNumber() {
        IceSlab slab = Checks.stallOf("h1;f1190;f1090");
        for (int x = 1; x <= 9; x++) {
            slab.buyer(0, 0, 9, 0);
            dueFetched(x + " want it", slab, 8 * x, x, 0);
        }
    }

    /** "of several the first as a row": one of sort 1 for sort 0, as both bring as much. */
    private static void fetchFirstAsARow() {
        dueFetched("0, 1 ahead of 1, 0", stall("h1;f5290;f5290", 1, 0, 20, 0), 7, 0, 1);
        dueFetched("0, 0, 1 ahead of 0, 1, 0", stall("h1;f5290;f5290;f5290", 1, 1, 20, 0), 7, 0, 0, 1);
        dueFetched("sort 0 is cheaper", stall("h1;f5190;f5290", 1, 1, 20, 0), 8, 1, 0);
    }

    /** The same where SOUP fills up: with nine of sort 1, too, he takes that for nothing, and soup makes up for it. */
    private static void fetchFirstAsARowWithSoup() {
        IceSlab slab = stall("h1;f0190;f0290", 1, 1, 12, 0);
        slab.soup(3);
        slab.write(1, 0, 0);
        dueFetched("9, 0 ahead of 9, 9", slab, 24, 9, 0);
    }

    /** The same: what brings nothing is left out. */
    private static void fetchLeastWhereSoupPaysAsMuch() {
        IceSlab slab = stall("h1;f5090;f5390", 0, 0, 9, 0);
        dueFetched("for nothing, soup 0", slab, 9, 1, 0);
        slab.soup(3);
        dueFetched("soup 3", slab, 9 + 8 * 3, 9, 0);
    }

    /** SOUP of more than the COST fills all up to 9. */
    private static void fetchNineWhereSoupPaysMore() {
        IceSlab slab = stall("h1;f0890;f0990;f0090");
        slab.soup(9);
        dueFetched("soup 9", slab, 9 + 81, 9, 0, 9);
        slab.soup(8);
        dueFetched("soup 8", slab, 72, 0, 0, 9);
    }

    /** "FISH .. of all SORTS with which": those that lie there now are not looked at. */
    private static void fetchWhateverLies() {
        for (int fish = 0; fish <= 9; fish += 3) {
            dueFetched(fish + " lie there", stall("h1;f" + fish + "290", 0, 0, 9, 0, 0, 0, 9, 0), 14, 2);
        }
    }

    /** The greatest row: four SORTS with 9 each. */
    private static void fetchOfFourSorts() {
        IceSlab slab = stall("h8;f0090;f0090;f0090;f0090", 0, 3, 40, 7);
        dueFetched("one of the last", slab, 9, 0, 0, 0, 1);
        slab.soup(1);
        dueFetched("all of all", slab, 9 + 35, 9, 9, 9, 9);
    }

    /** "(THE SLATE, FISH stay as they are.)" */
    private static void fetchChangesNothing() {
        IceSlab slab = Refused.busy();
        slab.fetch(-1);
        slab.fetch(1);
        dueUnchanged("fetch", slab);
    }

    /** "NONE: there is no such SORT." */
    private static void fetchNoSuchSort() {
        String text = "h1";
        for (int sorts = 1; sorts <= 4; sorts++) {
            text += ";f1190";
            IceSlab slab = Checks.stallOf(text);
            for (int k = 0; k < 4; k++) {
                due("fetch(" + k + ") of " + sorts + " sorts", slab.fetch(k), k < sorts ? 0 : -9);
            }
        }
        FETCH.answers(-9, 2);
        FETCH.answers(-9, 3);
    }

    /** "UNKNOWN: k is not -1 .. 3" */
    private static void fetchEdges() {
        FETCH.answers(-1, -2);
        FETCH.answers(-1, 4);
        FETCH.answers(-1, MIN);
        FETCH.answers(-1, MAX);
    }

    /** "STATE: there is no STALL." */
    private static void fetchWithoutStall() {
        for (int k = -1; k < 4; k++) {
            FETCH.in(IceSlab::new).answers(-3, k);
        }
    }

    /** "UNKNOWN ..; STATE" */
    private static void fetchOrder() {
        FETCH.in(IceSlab::new).answers(-1, -2);
        FETCH.in(IceSlab::new).answers(-1, 4);
    }

    // ---- Promise 20

    /** "PROFIT with no FISH of a SORT": as there were none. */
    private static void carriedWithoutFish() {
        due("no fish", stall("h1;f0990", 0, 0, 40, 0).carried(0), 0);
        due("nobody wants it, for nothing", stall("h1;f9090").carried(0), 0);
        due("sold for 9", stall("h1;f1090", 0, 0, 40, 0).carried(0), 9);
    }

    /** A SORT that costs more than it brings: below 0, also where it looks like a refusal. */
    private static void carriedBelowZero() {
        due("-1", stall("h1;f1190").carried(0), -1);
        due("-81", stall("h1;f9990;f1190").carried(0), -81);
        due("he would take the other one", stall("h1;f1590;f1290", 1, 0, 20, 0).carried(0), 2 - 7);
    }

    /** With no FISH of it nothing is beside it any more. */
    private static void carriedByBeside() {
        IceSlab slab = stall("h1;f1090;f1190", 0, 0, 8, 0);
        slab.write(1, 0, 30);
        due("not beside", slab.carried(1), -1);
        slab.beside(true);
        due("beside", slab.carried(1), 9 - 1);
    }

    /** "(THE SLATE, FISH stay as they are.)" */
    private static void carriedChangesNothing() {
        IceSlab slab = Refused.busy();
        slab.carried(0);
        slab.carried(1);
        dueUnchanged("carried", slab);
    }

    /** carried: "UNKNOWN." */
    private static void carriedEdges() {
        CARRIED.answers(-1, -1);
        CARRIED.answers(-1, 2);
        CARRIED.answers(-1, MIN);
        CARRIED.answers(-1, MAX);
        CARRIED.in(IceSlab::new).answers(-1, 0);
    }

    // ---- Promise 21

    /** "for a price (0 .. 30) each" */
    private static void cookPrices() {
        IceSlab slab = stall("h1;f3090");
        slab.soup(1);
        due("for nothing", slab.cook(0, 0, 0), -3);
        due("as soup", slab.cook(0, 0, 1), 0);
        due("for 30", slab.cook(0, 0, 30), 87);
        COOK.answers(-2, 0, 0, -1);
        COOK.answers(-2, 1, 2, 31);
        COOK.answers(-2, 0, 0, MIN);
        COOK.answers(-2, 0, 0, MAX);
    }

    /** "ahead of all others in an HOUR": of BUYER 0, too. */
    private static void cookAheadOfAll() {
        IceSlab slab = stall("h1;f2090", 0, 0, 9, 0, 0, 0, 9, 0);
        due("2 times 5 for 2 times 9", slab.cook(0, 0, 5), 10 - 18);
    }

    /** "that lie there": what was sold in the HOURS ahead is gone. */
    private static void cookBehindEarlierHours() {
        IceSlab slab = stall("h2;f3090", 0, 0, 9, 0, 0, 0, 9, 1);
        due("in hour 0: 3 times 5 for 2 times 9", slab.cook(0, 0, 5), 15 - 18);
        due("in hour 1: 2 times 5 for 9", slab.cook(0, 1, 5), 10 - 9);
    }

    /** The last HOUR. */
    private static void cookInTheLastHour() {
        IceSlab slab = stall("h8;f9090", 0, 0, 9, 7, 0, 0, 9, 6);
        due("8 times 1 for 9", slab.cook(0, 7, 1), 8 - 9);
    }

    /** "takes all that lie there of a SORT" */
    private static void cookTakesAllThatLie() {
        IceSlab slab = stall("h1;f1990;f9990");
        due("nine of sort 1", slab.cook(1, 0, 30), 270);
        due("one of sort 0", slab.cook(0, 0, 30), 30);
    }

    /** None lie there: he takes nothing. */
    private static void cookWhereNoneLie() {
        due("no fish", stall("h1;f0990").cook(0, 0, 30), 0);
        due("all sold", stall("h2;f1090", 0, 0, 9, 0).cook(0, 1, 30), 0);
    }

    /** "of a SORT": those who choose go over to the others, those beside the dear one pay less. */
    private static void cookLeavesOthers() {
        due("he goes over", stall("h1;f1090;f1090", 1, 0, 20, 0).cook(0, 0, 5), 5);
        due("he waits in vain", stall("h2;f1090", 2, 0, 8, 0).cook(0, 1, 5), 5);
        IceSlab slab = stall("h1;f1090;f1090", 0, 0, 8, 0);
        slab.write(1, 0, 30);
        slab.beside(true);
        due("nothing dearer lies beside", slab.cook(1, 0, 20), 20 - 9);
    }

    /** PROFIT without him is as ever, and he is in no other search. */
    private static void cookChangesNothing() {
        IceSlab slab = Refused.busy();
        slab.cook(0, 0, 30);
        slab.cook(1, 2, 0);
        dueUnchanged("cook", slab);
        IceSlab other = stall("h1;f2090", 0, 0, 12, 0);
        due("for 30 each", other.cook(0, 0, 30), 60 - 9);
        dueBest("without him", other, 0, 0, 12, 12);
        other.cook(0, 0, 30);
        due("carried without him", other.carried(0), 9);
        other.cook(0, 0, 30);
        dueOff("without him", other, 9, -9, 0);
        other.cook(0, 0, 30);
        dueFetched("without him", other, 9, 1);
    }

    /** "UNKNOWN: SORT, HOUR; OUTSIDE." */
    private static void cookEdges() {
        COOK.answers(-1, -1, 0, 5);
        COOK.answers(-1, 2, 0, 5);
        COOK.answers(-1, MAX, 0, 5);
        COOK.answers(-1, 0, -1, 5);
        COOK.answers(-1, 0, 3, 5);
        COOK.answers(-1, 0, MIN, 5);
        COOK.answers(-1, 2, 0, 31);
        COOK.answers(-1, 0, 3, -1);
        COOK.in(IceSlab::new).answers(-1, 0, 0, 5);
        COOK.in(IceSlab::new).answers(-1, 0, 0, 31);
    }
}
