/** Promises 11 to 16: each sentence of the document that names an edge, by itself. */
public final class BuyersEdgesTest {
    private static final Checks CHECKS = new Checks();
    private static final Refused BUYER =
        Refused.notNaming(CHECKS, "buyer", (x, a) -> x.buyer(a[0], a[1], a[2], a[3]));
    private static final Refused OF_BUYER = Refused.notNaming(CHECKS, "ofBuyer", (x, a) -> x.ofBuyer(a[0], a[1]));
    private static final Refused WORTH = Refused.notNaming(CHECKS, "worth", (x, a) -> x.worth(a[0], a[1], a[2]));
    private static final Refused DAY = Refused.notNaming(CHECKS, "day", (x, a) -> x.day(a[0]));
    private static final Refused BOUGHT = Refused.notNaming(CHECKS, "bought", (x, a) -> x.bought(a[0], a[1]));
    private static final Refused SOLD = Refused.notNaming(CHECKS, "sold", (x, a) -> x.sold(a[0], a[1]));
    private static final int MIN = Integer.MIN_VALUE, MAX = Integer.MAX_VALUE;

    public static void main(String[] args) {
        buyersFromZeroOn();
        atMostTenBuyers();
        tenEvenIfSold();
        paysUpToForty();
        buyerKinds();
        buyerSortsAndHours();
        buyerOrder();
        ofBuyerEdges();

        worthOfTheFreshest();
        worthOfTheLeastFresh();
        worthOfAnotherSort();
        worthBelowZero();
        worthBesideOneAsDear();
        worthBesideOneCheaper();
        worthBesideOneThatDoesNotLie();
        worthBesideManyIsOneMore();
        worthBesideInThatHour();
        worthWithoutBeside();
        worthIfAllLay();
        worthIsForAnyHour();
        worthEdges();

        priceAsWorth();
        priceForNothing();
        priceAboveNegativeWorth();
        noFishLies();
        lastFishForTheFirst();
        besideEndsWithTheDearOne();
        dearOneItselfIsNotBeside();
        plainBuyerTakesNoOther();
        ownSortAheadOfBetter();
        othersIfOwnIsGone();
        othersIfOwnIsTooDear();
        otherAtItsWorth();
        greatestWorthLessPrice();
        leastSortOfSeveral();
        leastSortBehindHisOwn();

        waitsIfCheaperNext();
        asDearNextIsNotCheaper();
        cheaperAfterNextIsNotNext();
        lastHourHasNoNext();
        lastHourOfEightHasNoNext();
        oneHourHasNoNext();
        othersCheaperNextAreNotHis();
        waitsThoughNextIsTooDear();
        waitsThoughNoneLies();
        comesTillTheLastHour();
        comesAnewFromHisHourOn();
        comesNoMoreOnceHeBought();
        onlyWaitingOnesComeAgain();
        choosingOnesDoNotWait();
        waitsHourByHour();
        waitingOnesChooseToo();
        byNumbersInAnHour();
        hoursAheadOfNumbers();

        dayWithoutBuyers();
        dayWithoutFish();
        dayWithAllSold();
        dayWithSoup();
        dayBelowZero();
        dayEdges();
        dayWithoutStall();
        dayGoesAnew();
        boughtNothing();
        boughtForNothing();
        boughtEdges();
        goneWithTheLastOne();
        notGoneWithOneLeft();
        notGoneWithoutFish();
        goneInHourZero();
        soldForNothing();
        soldEdges();
        CHECKS.end("BuyersEdgesTest");
    }

    private static void due(String call, long got, long want) {
        CHECKS.due(call, got, want);
    }

    /** What the buyer took, and how often he came. */
    private static void dueBought(String told, IceSlab slab, int x, int sort, int hour, int price, int came) {
        due(told + ": bought(" + x + ", 0)", slab.bought(x, 0), sort);
        due(told + ": bought(" + x + ", 1)", slab.bought(x, 1), hour);
        due(told + ": bought(" + x + ", 2)", slab.bought(x, 2), price);
        due(told + ": bought(" + x + ", 3)", slab.bought(x, 3), came);
    }

    private static void dueNothing(String told, IceSlab slab, int x, int came) {
        dueBought(told, slab, x, -9, -9, -9, came);
    }

    private static IceSlab stall(String text, int... buyers) {
        return Checks.stallOf(text, buyers);
    }

    // ---- Promises 11 and 12

    /** "BUYERS .. numbered as they come" */
    private static void buyersFromZeroOn() {
        IceSlab slab = stall("h2;f1111;f1111", 2, 1, 40, 0, 0, 0, 0, 1);
        due("many(2)", slab.many(2), 2);
        int[] due = {2, 1, 40, 0, 0, 0, 0, 1};
        for (int i = 0; i < 8; i++) {
            due("ofBuyer(" + i / 4 + ", " + i % 4 + ")", slab.ofBuyer(i / 4, i % 4), due[i]);
        }
    }

    /** "BUYERS, 10 ever", "FULL" */
    private static void atMostTenBuyers() {
        BUYER.in(BuyersEdgesTest::withTenBuyers).answers(-4, 0, 0, 0, 0);
        BUYER.in(BuyersEdgesTest::withTenBuyers).answers(-4, 2, 1, 40, 2);
        IceSlab slab = withTenBuyers();
        due("many(2)", slab.many(2), 10);
        due("the tenth one", slab.ofBuyer(9, 2), 9);
        due("an eleventh one", slab.ofBuyer(10, 2), -1);
        IceSlab nine = Checks.stallOf("h1;f1111");
        for (int x = 0; x < 9; x++) {
            nine.buyer(0, 0, 0, 0);
        }
        due("the tenth one", nine.buyer(0, 0, 0, 0), 9);
        due("the eleventh one", nine.buyer(0, 0, 0, 0), -4);
    }

    private static IceSlab withTenBuyers() {
        IceSlab slab = Checks.stallOf("h3;f1111;f1111");
        for (int x = 0; x < 10; x++) {
            slab.buyer(x % 3, x % 2, x, x % 3);
        }
        return slab;
    }

    /** "10 ever": those who have bought count, too; only a new STALL is without them. */
    private static void tenEvenIfSold() {
        IceSlab slab = withTenBuyers();
        slab.day(0);
        due("behind the day", slab.buyer(0, 0, 0, 0), -4);
        Checks.tellText(slab, "h1;f111");
        due("behind no stall", slab.buyer(0, 0, 0, 0), -4);
        Checks.tellText(slab, "h1;f1111");
        due("of a new stall", slab.buyer(0, 0, 0, 0), 0);
    }

    /** "what he PAYS at most (0 .. 40)" */
    private static void paysUpToForty() {
        IceSlab slab = stall("h2;f1111;f1111", 0, 0, 0, 0, 0, 0, 40, 0);
        due("0", slab.ofBuyer(0, 2), 0);
        due("40", slab.ofBuyer(1, 2), 40);
        BUYER.answers(-2, 0, 0, -1, 0);
        BUYER.answers(-2, 0, 0, 41, 0);
        BUYER.answers(-2, 0, 0, MIN, 0);
        BUYER.answers(-2, 0, 0, MAX, 0);
    }

    /** "of a kind: 0 BUYER; 1 CHOOSING ..; 2 WAITING" */
    private static void buyerKinds() {
        IceSlab slab = stall("h2;f1111;f1111", 0, 0, 0, 0, 1, 0, 0, 0, 2, 0, 0, 0);
        for (int kind = 0; kind < 3; kind++) {
            due("ofBuyer(" + kind + ", 0)", slab.ofBuyer(kind, 0), kind);
        }
        BUYER.answers(-2, -1, 0, 5, 0);
        BUYER.answers(-2, 3, 0, 5, 0);
        BUYER.answers(-2, MIN, 0, 5, 0);
        BUYER.answers(-2, MAX, 0, 5, 0);
    }

    /** "UNKNOWN: SORT, HOUR" */
    private static void buyerSortsAndHours() {
        BUYER.answers(-1, 0, -1, 5, 0);
        BUYER.answers(-1, 0, 2, 5, 0);
        BUYER.answers(-1, 0, MAX, 5, 0);
        BUYER.answers(-1, 0, 0, 5, -1);
        BUYER.answers(-1, 0, 0, 5, 3);
        BUYER.answers(-1, 0, 0, 5, MIN);
        BUYER.in(IceSlab::new).answers(-1, 0, 0, 5, 0);
        IceSlab slab = stall("h8;f1111;f1111;f1111;f1111", 0, 3, 5, 7);
        due("the last sort", slab.ofBuyer(0, 1), 3);
        due("the last hour", slab.ofBuyer(0, 3), 7);
    }

    /** "UNKNOWN ..; OUTSIDE ..; FULL." */
    private static void buyerOrder() {
        BUYER.answers(-1, 3, 2, 41, 0);
        BUYER.answers(-1, 3, 0, 41, 3);
        BUYER.in(BuyersEdgesTest::withTenBuyers).answers(-1, 0, 2, 5, 0);
        BUYER.in(BuyersEdgesTest::withTenBuyers).answers(-1, 0, 0, 5, 3);
        BUYER.in(BuyersEdgesTest::withTenBuyers).answers(-2, 3, 0, 5, 0);
        BUYER.in(BuyersEdgesTest::withTenBuyers).answers(-2, 0, 0, 41, 0);
        BUYER.in(IceSlab::new).answers(-1, 3, 0, 41, 0);
    }

    /** ofBuyer: "UNKNOWN; OUTSIDE." */
    private static void ofBuyerEdges() {
        OF_BUYER.answers(-1, -1, 0);
        OF_BUYER.answers(-1, 3, 0);
        OF_BUYER.answers(-1, MIN, 0);
        OF_BUYER.answers(-1, MAX, 0);
        OF_BUYER.answers(-2, 0, -1);
        OF_BUYER.answers(-2, 2, 4);
        OF_BUYER.answers(-2, 2, MIN);
        OF_BUYER.answers(-2, 2, MAX);
        OF_BUYER.answers(-1, 3, 4);
        OF_BUYER.in(IceSlab::new).answers(-1, 0, 4);
    }

    // ---- Promise 13

    /** "what he PAYS, less what it lacks to be 9 FRESH": nothing. */
    private static void worthOfTheFreshest() {
        IceSlab slab = stall("h2;f1191", 0, 0, 40, 0, 0, 0, 0, 0);
        due("pays 40", slab.worth(0, 0, 0), 40);
        due("pays 0", slab.worth(1, 0, 0), 0);
        due("an hour later", slab.worth(0, 0, 1), 39);
    }

    /** The same, where it is not FRESH at all; it lacks no more than 9. */
    private static void worthOfTheLeastFresh() {
        IceSlab slab = stall("h8;f1103;f1113", 0, 0, 20, 0);
        due("fresh 0", slab.worth(0, 0, 0), 11);
        due("fresh 0 and fading", slab.worth(0, 0, 7), 11);
        due("another one, fresh 1", slab.worth(0, 1, 0), 20 - 8 - 2);
        due("another one, fresh 0", slab.worth(0, 1, 7), 20 - 9 - 2);
    }

    /** "2 less, if it is not his" */
    private static void worthOfAnotherSort() {
        IceSlab slab = stall("h1;f1190;f1190", 0, 1, 20, 0);
        due("his", slab.worth(0, 1, 0), 20);
        due("not his", slab.worth(0, 0, 0), 18);
    }

    /** A WORTH below 0 is told as it is, also where it looks like a refusal. */
    private static void worthBelowZero() {
        IceSlab slab = stall("h2;f1100;f1190", 0, 0, 0, 0, 0, 0, 8, 0, 0, 1, 1, 0);
        due("pays 0 for fresh 0", slab.worth(0, 0, 0), -9);
        due("pays 8 for fresh 0", slab.worth(1, 0, 0), -1);
        due("pays 1, not his", slab.worth(2, 0, 0), 1 - 9 - 2);
    }

    /** "a SORT that is dearer": as dear is not enough, one more is. */
    private static void worthBesideOneAsDear() {
        IceSlab slab = stall("h1;f1190;f1190", 0, 0, 20, 0);
        slab.beside(true);
        due("as dear", slab.worth(0, 0, 0), 20);
        slab.write(1, 0, 10);
        due("one dearer", slab.worth(0, 0, 0), 21);
        due("the dearer one itself", slab.worth(0, 1, 0), 18);
        slab.write(1, 0, 30);
        slab.write(0, 0, 30);
        due("both at 30", slab.worth(0, 0, 0), 20);
        slab.write(0, 0, 29);
        due("29 beside 30", slab.worth(0, 0, 0), 21);
        slab.write(1, 0, 0);
        slab.write(0, 0, 0);
        due("both at 0", slab.worth(0, 0, 0), 20);
    }

    /** "dearer", not cheaper. */
    private static void worthBesideOneCheaper() {
        IceSlab slab = stall("h1;f1190;f1190", 0, 0, 20, 0);
        slab.beside(true);
        slab.write(1, 0, 8);
        due("beside a cheaper one", slab.worth(0, 0, 0), 20);
        due("the cheaper one", slab.worth(0, 1, 0), 19);
    }

    /** "if there lies a FISH of a SORT" */
    private static void worthBesideOneThatDoesNotLie() {
        IceSlab slab = stall("h1;f0190;f0190", 0, 0, 20, 0);
        slab.beside(true);
        slab.write(1, 0, 30);
        due("none of the dearer one", slab.worth(0, 0, 0), 20);
        slab.fish(1, 1);
        due("one of it, and none of his", slab.worth(0, 0, 0), 21);
    }

    /** "1 more", however many are dearer. */
    private static void worthBesideManyIsOneMore() {
        IceSlab slab = stall("h1;f1190;f9190;f9190;f9190", 0, 0, 20, 0);
        slab.beside(true);
        for (int s = 1; s < 4; s++) {
            slab.write(s, 0, 27 + s);
        }
        due("three are dearer", slab.worth(0, 0, 0), 21);
        due("one is dearer, not his", slab.worth(0, 2, 0), 19);
        due("none is dearer, not his", slab.worth(0, 3, 0), 18);
    }

    /** "dearer on THE SLATE in that HOUR" */
    private static void worthBesideInThatHour() {
        IceSlab slab = stall("h3;f1190;f1190", 0, 0, 20, 0);
        slab.beside(true);
        slab.write(1, 1, 10);
        due("the hour ahead", slab.worth(0, 0, 0), 20);
        due("that hour", slab.worth(0, 0, 1), 21);
        due("the hour behind", slab.worth(0, 0, 2), 20);
    }

    /** "with BESIDE 1 more" */
    private static void worthWithoutBeside() {
        IceSlab slab = stall("h1;f1190;f1190", 0, 0, 20, 0);
        slab.write(1, 0, 30);
        due("not beside", slab.worth(0, 0, 0), 20);
        slab.beside(true);
        due("beside", slab.worth(0, 0, 0), 21);
        slab.beside(false);
        due("no more", slab.worth(0, 0, 0), 20);
    }

    /** "if all FISH lay there": also those that THE DAY sells ahead. */
    private static void worthIfAllLay() {
        IceSlab slab = stall("h2;f1190;f1190", 0, 1, 40, 0, 0, 0, 20, 1);
        slab.beside(true);
        Checks.prices(slab, 1, 30, 30);
        due("the dear one is gone in hour 0", slab.sold(1, 1), 0);
        due("as if it lay there in hour 1", slab.worth(1, 0, 1), 21);
        due("he himself pays without it", slab.bought(1, 2), 9);
        slab.write(0, 1, 21);
        due("by the day it is worth 20", slab.bought(1, 0), -9);
        due("told as 21", slab.worth(1, 0, 1), 21);
    }

    /** "in an HOUR": any, not his alone. */
    private static void worthIsForAnyHour() {
        IceSlab slab = stall("h3;f1191", 0, 0, 20, 2);
        for (int t = 0; t < 3; t++) {
            due("worth(0, 0, " + t + ")", slab.worth(0, 0, t), 20 - t);
        }
    }

    /** worth: "UNKNOWN." */
    private static void worthEdges() {
        WORTH.answers(-1, -1, 0, 0);
        WORTH.answers(-1, 3, 0, 0);
        WORTH.answers(-1, MIN, 0, 0);
        WORTH.answers(-1, MAX, 0, 0);
        WORTH.answers(-1, 0, -1, 0);
        WORTH.answers(-1, 0, 2, 0);
        WORTH.answers(-1, 0, MAX, 0);
        WORTH.answers(-1, 0, 0, -1);
        WORTH.answers(-1, 0, 0, 3);
        WORTH.answers(-1, 0, 0, MIN);
        WORTH.in(IceSlab::new).answers(-1, 0, 0, 0);
    }

    // ---- A BUYER, a CHOOSING one

    /** "its price is not above WORTH": as much is not above. */
    private static void priceAsWorth() {
        IceSlab slab = stall("h1;f1170", 0, 0, 12, 0);
        slab.write(0, 0, 9);
        dueBought("9 for 10", slab, 0, 0, 0, 9, 1);
        slab.write(0, 0, 10);
        dueBought("10 for 10", slab, 0, 0, 0, 10, 1);
        slab.write(0, 0, 11);
        dueNothing("11 for 10", slab, 0, 1);
    }

    /** A WORTH of 0, a price of 0. */
    private static void priceForNothing() {
        IceSlab slab = stall("h1;f1190", 0, 0, 0, 0);
        slab.write(0, 0, 0);
        dueBought("0 for 0", slab, 0, 0, 0, 0, 1);
        slab.write(0, 0, 1);
        dueNothing("1 for 0", slab, 0, 1);
    }

    /** No price is below 0. */
    private static void priceAboveNegativeWorth() {
        IceSlab slab = stall("h1;f1180", 0, 0, 0, 0);
        slab.write(0, 0, 0);
        dueNothing("0 for -1", slab, 0, 1);
    }

    /** "buys one of his SORT, if there lies one" */
    private static void noFishLies() {
        IceSlab slab = stall("h1;f0090", 0, 0, 40, 0);
        dueNothing("none", slab, 0, 1);
        slab.fish(0, 1);
        dueBought("one", slab, 0, 0, 0, 9, 1);
    }

    /** The last one is gone for who comes behind. */
    private static void lastFishForTheFirst() {
        IceSlab slab = stall("h2;f2090", 0, 0, 40, 0, 0, 0, 40, 0, 0, 0, 40, 0, 0, 0, 40, 1);
        dueBought("first", slab, 0, 0, 0, 9, 1);
        dueBought("second", slab, 1, 0, 0, 9, 1);
        dueNothing("third", slab, 2, 1);
        dueNothing("an hour later", slab, 3, 1);
    }

    /** "with BESIDE 1 more, if there lies a FISH": as THE DAY goes, until the last dear one is sold. */
    private static void besideEndsWithTheDearOne() {
        IceSlab slab = stall("h1;f9090;f2090", 0, 0, 8, 0, 0, 1, 40, 0, 0, 0, 8, 0, 0, 1, 40, 0, 0, 0, 8, 0);
        slab.write(1, 0, 30);
        slab.beside(true);
        dueBought("beside two", slab, 0, 0, 0, 9, 1);
        dueBought("beside the last one", slab, 2, 0, 0, 9, 1);
        dueNothing("beside none", slab, 4, 1);
    }

    /** The dearest one has no dearer one beside it, itself is none. */
    private static void dearOneItselfIsNotBeside() {
        IceSlab slab = stall("h1;f9090;f9090", 0, 1, 29, 0);
        slab.write(1, 0, 30);
        slab.beside(true);
        dueNothing("30 for 29", slab, 0, 1);
    }

    /** "A CHOOSING one who does not, one of the others": a BUYER none. */
    private static void plainBuyerTakesNoOther() {
        IceSlab slab = stall("h1;f0090;f9090", 0, 0, 40, 0, 1, 0, 40, 0);
        dueNothing("a plain one", slab, 0, 1);
        dueBought("a choosing one", slab, 1, 1, 0, 9, 1);
    }

    /** "A CHOOSING one who does not": his own one goes first, though another one were better. */
    private static void ownSortAheadOfBetter() {
        IceSlab slab = stall("h1;f9090;f9090", 1, 1, 9, 0);
        slab.write(0, 0, 0);
        dueBought("9 for 9 ahead of 0 for 7", slab, 0, 1, 0, 9, 1);
    }

    /** "one of the others", where none of his lies. */
    private static void othersIfOwnIsGone() {
        IceSlab slab = stall("h1;f1090;f1090", 1, 0, 20, 0, 1, 0, 20, 0, 1, 0, 20, 0);
        dueBought("his own", slab, 0, 0, 0, 9, 1);
        dueBought("the other", slab, 1, 1, 0, 9, 1);
        dueNothing("none lies", slab, 2, 1);
    }

    /** "one of the others", where his is too dear. */
    private static void othersIfOwnIsTooDear() {
        IceSlab slab = stall("h1;f1090;f1090", 1, 0, 20, 0);
        slab.write(0, 0, 21);
        dueBought("the other", slab, 0, 1, 0, 9, 1);
        slab.write(0, 0, 20);
        dueBought("his own", slab, 0, 0, 0, 20, 1);
    }

    /** "for which that is so": its price not above its WORTH, 2 less. */
    private static void otherAtItsWorth() {
        IceSlab slab = stall("h1;f0090;f1090", 1, 0, 20, 0);
        slab.write(1, 0, 18);
        dueBought("18 for 18", slab, 0, 1, 0, 18, 1);
        slab.write(1, 0, 19);
        dueNothing("19 for 18", slab, 0, 1);
    }

    /** "of the greatest WORTH less price" */
    private static void greatestWorthLessPrice() {
        IceSlab slab = stall("h1;f0090;f1090;f1050;f1000", 1, 0, 30, 0);
        Checks.prices(slab, 1, 10);
        Checks.prices(slab, 2, 5);
        Checks.prices(slab, 3, 0);
        dueBought("18 less, 19 less, 19 less", slab, 0, 2, 0, 5, 1);
        slab.write(1, 0, 8);
        dueBought("20 less", slab, 0, 1, 0, 8, 1);
        slab.write(2, 0, 3);
        dueBought("21 less", slab, 0, 2, 0, 3, 1);
        slab.fish(2, 0);
        dueBought("20 less, for none of the better one lies", slab, 0, 1, 0, 8, 1);
        slab.fish(1, 0);
        dueBought("19 less", slab, 0, 3, 0, 0, 1);
    }

    /** "of several the least SORT" */
    private static void leastSortOfSeveral() {
        IceSlab slab = stall("h1;f0090;f1090;f1090;f1090", 1, 0, 30, 0);
        dueBought("three alike", slab, 0, 1, 0, 9, 1);
        slab.fish(1, 0);
        dueBought("two alike", slab, 0, 2, 0, 9, 1);
        slab.fish(2, 0);
        dueBought("one", slab, 0, 3, 0, 9, 1);
    }

    /** The same, where his own is a greater one. */
    private static void leastSortBehindHisOwn() {
        IceSlab slab = stall("h1;f1090;f1090;f1090;f0090", 1, 3, 30, 0, 1, 3, 30, 0, 1, 3, 30, 0, 1, 3, 30, 0);
        for (int x = 0; x < 3; x++) {
            dueBought("buyer " + x, slab, x, x, 0, 9, 1);
        }
        dueNothing("buyer 3", slab, 3, 1);
    }

    // ---- A WAITING one

    /** "if there is a next HOUR, and his SORT is cheaper in it .., he buys nothing now" */
    private static void waitsIfCheaperNext() {
        IceSlab slab = stall("h2;f1090", 2, 0, 40, 0);
        Checks.prices(slab, 0, 9, 8);
        dueBought("cheaper by 1", slab, 0, 0, 1, 8, 2);
        Checks.prices(slab, 0, 1, 0);
        dueBought("for nothing", slab, 0, 0, 1, 0, 2);
    }

    /** "cheaper": as dear is not cheaper. */
    private static void asDearNextIsNotCheaper() {
        IceSlab slab = stall("h2;f1090", 2, 0, 40, 0);
        dueBought("9 and 9", slab, 0, 0, 0, 9, 1);
        Checks.prices(slab, 0, 0, 0);
        dueBought("0 and 0", slab, 0, 0, 0, 0, 1);
        Checks.prices(slab, 0, 9, 10);
        dueBought("9 and 10", slab, 0, 0, 0, 9, 1);
    }

    /** "a next HOUR": not any later one. */
    private static void cheaperAfterNextIsNotNext() {
        IceSlab slab = stall("h3;f1090", 2, 0, 40, 0);
        Checks.prices(slab, 0, 9, 9, 0);
        dueBought("two hours later", slab, 0, 0, 0, 9, 1);
    }

    /** "if there is a next HOUR" */
    private static void lastHourHasNoNext() {
        IceSlab slab = stall("h3;f1090", 2, 0, 40, 2);
        Checks.prices(slab, 0, 0, 0, 30);
        dueBought("in the last hour", slab, 0, 0, 2, 30, 1);
    }

    /** The same, with as many HOURS as there can be. */
    private static void lastHourOfEightHasNoNext() {
        IceSlab slab = stall("h8;f1090;f1090", 2, 0, 40, 7, 2, 1, 40, 7);
        Checks.prices(slab, 0, 0, 0, 0, 0, 0, 0, 0, 30);
        Checks.prices(slab, 1, 0, 0, 0, 0, 0, 0, 0, 30);
        dueBought("in hour 7", slab, 0, 0, 7, 30, 1);
        dueBought("in hour 7", slab, 1, 1, 7, 30, 1);
    }

    /** The same, with one HOUR; what the last STALL's slate told behind it is none. */
    private static void oneHourHasNoNext() {
        IceSlab slab = Checks.stallOf("h2;f1090");
        slab.write(0, 1, 0);
        Checks.tellText(slab, "h1;f1090");
        slab.buyer(2, 0, 40, 0);
        dueBought("in hour 0", slab, 0, 0, 0, 9, 1);
        slab.write(0, 0, 30);
        dueBought("in hour 0", slab, 0, 0, 0, 30, 1);
    }

    /** "his SORT is cheaper in it": not another one. */
    private static void othersCheaperNextAreNotHis() {
        IceSlab slab = stall("h2;f1090;f1090", 2, 0, 40, 0, 2, 0, 40, 0);
        Checks.prices(slab, 1, 9, 0);
        dueBought("his own", slab, 0, 0, 0, 9, 1);
        dueBought("the other one", slab, 1, 1, 0, 9, 1);
    }

    /** "he buys nothing now", though it will be too dear for him then, or not worth it. */
    private static void waitsThoughNextIsTooDear() {
        IceSlab slab = stall("h2;f1093", 2, 0, 10, 0);
        Checks.prices(slab, 0, 9, 8);
        dueNothing("9 for 10, then 8 for 7", slab, 0, 2);
        Checks.prices(slab, 0, 8, 7);
        dueBought("8 for 10, then 7 for 7", slab, 0, 0, 1, 7, 2);
    }

    /** "his SORT is cheaper in it on THE SLATE": the slate tells it, whether one lies or not. */
    private static void waitsThoughNoneLies() {
        IceSlab slab = stall("h2;f0090;f1090", 2, 0, 40, 0);
        Checks.prices(slab, 0, 9, 8);
        dueBought("he waits with none of his", slab, 0, 1, 1, 9, 2);
        Checks.prices(slab, 0, 9, 9);
        dueBought("he takes the other one at once", slab, 0, 1, 0, 9, 1);
    }

    /** "comes again in the next HOUR (till the last one)" */
    private static void comesTillTheLastHour() {
        IceSlab slab = stall("h8;f1090", 2, 0, 8, 0);
        dueNothing("never worth it", slab, 0, 8);
        slab.write(0, 7, 8);
        dueBought("in the last hour", slab, 0, 0, 7, 8, 8);
        IceSlab one = stall("h1;f1090", 2, 0, 8, 0);
        dueNothing("of one hour", one, 0, 1);
    }

    /** He comes from his HOUR on, not ahead of it. */
    private static void comesAnewFromHisHourOn() {
        IceSlab slab = stall("h4;f1090", 2, 0, 8, 2, 2, 0, 8, 3);
        Checks.prices(slab, 0, 0, 0, 9, 9);
        dueNothing("from hour 2 on", slab, 0, 2);
        dueNothing("in the last hour", slab, 1, 1);
    }

    /** "who bought nothing comes again": who bought does not. */
    private static void comesNoMoreOnceHeBought() {
        IceSlab slab = stall("h4;f9090", 2, 0, 20, 0);
        Checks.prices(slab, 0, 9, 9, 3, 0);
        dueBought("at once", slab, 0, 0, 0, 9, 1);
        due("one is sold", slab.day(1), 1);
    }

    /** "A WAITING one ..; and who bought nothing comes again": none of the others. */
    private static void onlyWaitingOnesComeAgain() {
        IceSlab slab = stall("h2;f9090", 0, 0, 8, 0, 1, 0, 8, 0, 2, 0, 8, 0);
        slab.write(0, 1, 8);
        dueNothing("a plain one", slab, 0, 1);
        dueNothing("a choosing one", slab, 1, 1);
        dueBought("a waiting one", slab, 2, 0, 1, 8, 2);
    }

    /** "A WAITING one ..": the others buy though it is cheaper in the next HOUR. */
    private static void choosingOnesDoNotWait() {
        IceSlab slab = stall("h2;f9090", 0, 0, 9, 0, 1, 0, 9, 0, 2, 0, 9, 0);
        slab.write(0, 1, 8);
        dueBought("a plain one", slab, 0, 0, 0, 9, 1);
        dueBought("a choosing one", slab, 1, 0, 0, 9, 1);
        dueBought("a waiting one", slab, 2, 0, 1, 8, 2);
    }

    /** He waits as often as it is cheaper, and no longer. */
    private static void waitsHourByHour() {
        IceSlab slab = stall("h5;f1090", 2, 0, 40, 0);
        Checks.prices(slab, 0, 9, 8, 7, 7, 6);
        dueBought("till hour 2", slab, 0, 0, 2, 7, 3);
    }

    /** "A WAITING one does as a CHOOSING one" */
    private static void waitingOnesChooseToo() {
        IceSlab slab = stall("h2;f0090;f1090;f1090", 2, 0, 20, 0, 2, 0, 20, 0, 2, 0, 20, 0);
        slab.write(2, 0, 8);
        dueBought("the better one", slab, 0, 2, 0, 8, 1);
        dueBought("the other one", slab, 1, 1, 0, 9, 1);
        dueNothing("none lies", slab, 2, 2);
    }

    /** "in each those who come, by numbers": who waited has no place ahead, nor behind. */
    private static void byNumbersInAnHour() {
        IceSlab slab = stall("h2;f1090", 0, 0, 40, 1, 2, 0, 40, 0);
        Checks.prices(slab, 0, 9, 8);
        dueBought("the lesser number", slab, 0, 0, 1, 8, 1);
        dueNothing("who waited", slab, 1, 2);
        IceSlab other = stall("h2;f1090", 2, 0, 40, 0, 0, 0, 40, 1);
        Checks.prices(other, 0, 9, 8);
        dueBought("who waited, of the lesser number", other, 0, 0, 1, 8, 2);
        dueNothing("the greater number", other, 1, 1);
    }

    /** "HOUR by HOUR": an earlier one is ahead of a lesser number. */
    private static void hoursAheadOfNumbers() {
        IceSlab slab = stall("h2;f1090", 0, 0, 40, 1, 0, 0, 40, 0);
        dueNothing("in hour 1", slab, 0, 1);
        dueBought("in hour 0", slab, 1, 0, 0, 9, 1);
    }

    // ---- Promises 14 to 16

    private static void dueDay(String told, IceSlab slab, int income, int sold, int left, int profit) {
        due(told + ": day(0)", slab.day(0), income);
        due(told + ": day(1)", slab.day(1), sold);
        due(told + ": day(2)", slab.day(2), left);
        due(told + ": day(3)", slab.day(3), profit);
    }

    /** THE DAY, with nobody. */
    private static void dayWithoutBuyers() {
        dueDay("nobody", Checks.stallOf("h8;f9990;f9990;f9990;f9990"), 0, 0, 36, -324);
    }

    /** THE DAY, with nothing. */
    private static void dayWithoutFish() {
        IceSlab slab = stall("h1;f0990;f0990", 1, 0, 40, 0);
        slab.soup(9);
        dueDay("no fish", slab, 0, 0, 0, 0);
    }

    /** "LEFT: FISH that were not sold": none. */
    private static void dayWithAllSold() {
        IceSlab slab = stall("h1;f1290;f1390", 1, 0, 40, 0, 1, 0, 40, 0);
        slab.soup(9);
        dueDay("all sold", slab, 18, 2, 0, 18 - 5);
    }

    /** "SOUP (0 .. 9) for each one LEFT" */
    private static void dayWithSoup() {
        IceSlab slab = stall("h1;f3090;f2090", 0, 0, 40, 0);
        dueDay("soup 0", slab, 9, 1, 4, 9);
        slab.soup(1);
        dueDay("soup 1", slab, 9, 1, 4, 13);
        slab.soup(9);
        dueDay("soup 9", slab, 9, 1, 4, 45);
    }

    /** "less COST of all FISH", sold or not: below 0, also where it looks like a refusal. */
    private static void dayBelowZero() {
        IceSlab slab = stall("h1;f2590", 0, 0, 40, 0);
        dueDay("9 less 2 times 5", slab, 9, 1, 1, -1);
        slab.write(0, 0, 1);
        dueDay("1 less 2 times 5", slab, 1, 1, 1, -9);
    }

    /** day: "OUTSIDE" */
    private static void dayEdges() {
        DAY.answers(-2, -1);
        DAY.answers(-2, 4);
        DAY.answers(-2, MIN);
        DAY.answers(-2, MAX);
    }

    /** "OUTSIDE; STATE: there is no STALL." */
    private static void dayWithoutStall() {
        for (int what = 0; what < 4; what++) {
            DAY.in(IceSlab::new).answers(-3, what);
        }
        DAY.in(IceSlab::new).answers(-2, 4);
        DAY.in(IceSlab::new).answers(-2, -1);
    }

    /** THE DAY is gone through with all as it is now: asked twice, it is the same; changed, it is another one. */
    private static void dayGoesAnew() {
        IceSlab slab = stall("h1;f1090", 0, 0, 40, 0);
        dueDay("once", slab, 9, 1, 0, 9);
        dueDay("twice", slab, 9, 1, 0, 9);
        due("fish stay", slab.ofSort(0, 0), 1);
        slab.write(0, 0, 30);
        dueDay("dearer", slab, 30, 1, 0, 30);
        slab.fish(0, 0);
        dueDay("no fish", slab, 0, 0, 0, 0);
    }

    /** "0 the SORT that he bought (NONE), 1 in which HOUR (NONE), 2 for how much (NONE)" */
    private static void boughtNothing() {
        for (int kind = 0; kind < 3; kind++) {
            IceSlab slab = stall("h2;f1090", kind, 0, 8, 1);
            dueNothing("kind " + kind, slab, 0, 1);
        }
    }

    /** SORT 0 in HOUR 0 for 0 is not NONE. */
    private static void boughtForNothing() {
        IceSlab slab = stall("h1;f1090", 0, 0, 0, 0);
        slab.write(0, 0, 0);
        dueBought("for nothing", slab, 0, 0, 0, 0, 1);
    }

    /** bought: "UNKNOWN; OUTSIDE." */
    private static void boughtEdges() {
        BOUGHT.answers(-1, -1, 0);
        BOUGHT.answers(-1, 3, 0);
        BOUGHT.answers(-1, MIN, 0);
        BOUGHT.answers(-1, MAX, 0);
        BOUGHT.answers(-2, 0, -1);
        BOUGHT.answers(-2, 2, 4);
        BOUGHT.answers(-2, 2, MIN);
        BOUGHT.answers(-2, 2, MAX);
        BOUGHT.answers(-1, 3, 4);
        BOUGHT.in(IceSlab::new).answers(-1, 0, 4);
        BOUGHT.in(IceSlab::new).answers(-1, 0, 0);
    }

    private static void dueSold(String told, IceSlab slab, int s, int left, int gone, int paid) {
        due(told + ": sold(" + s + ", 0)", slab.sold(s, 0), left);
        due(told + ": sold(" + s + ", 1)", slab.sold(s, 1), gone);
        due(told + ": sold(" + s + ", 2)", slab.sold(s, 2), paid);
    }

    /** "GONE: the HOUR in which the last one of a SORT was sold." */
    private static void goneWithTheLastOne() {
        IceSlab slab = stall("h8;f2090", 0, 0, 40, 3, 0, 0, 40, 7);
        dueSold("hours 3 and 7", slab, 0, 0, 7, 18);
        slab.fish(0, 1);
        dueSold("hour 3", slab, 0, 0, 3, 9);
    }

    /** "1 GONE (NONE: not so)": one is left. */
    private static void notGoneWithOneLeft() {
        IceSlab slab = stall("h8;f2090;f1090", 0, 0, 40, 3);
        dueSold("one is left", slab, 0, 1, -9, 9);
        dueSold("none was wanted", slab, 1, 1, -9, 0);
    }

    /** The same: of no FISH no last one was sold. */
    private static void notGoneWithoutFish() {
        IceSlab slab = stall("h2;f0090", 2, 0, 40, 0);
        dueSold("no fish", slab, 0, 0, -9, 0);
        IceSlab again = stall("h2;f1090", 0, 0, 40, 0);
        due("gone", again.sold(0, 1), 0);
        again.fish(0, 0);
        dueSold("no fish any more", again, 0, 0, -9, 0);
    }

    /** HOUR 0 is not NONE. */
    private static void goneInHourZero() {
        dueSold("at once", stall("h2;f1090", 0, 0, 40, 0), 0, 0, 0, 9);
    }

    /** "2 what was paid for it": nothing, though it was sold. */
    private static void soldForNothing() {
        IceSlab slab = stall("h1;f1090", 0, 0, 40, 0);
        slab.write(0, 0, 0);
        dueSold("for nothing", slab, 0, 0, 0, 0);
        due("one is sold", slab.day(1), 1);
    }

    /** sold: "UNKNOWN; OUTSIDE." */
    private static void soldEdges() {
        SOLD.answers(-1, -1, 0);
        SOLD.answers(-1, 2, 0);
        SOLD.answers(-1, MIN, 0);
        SOLD.answers(-1, MAX, 0);
        SOLD.answers(-2, 0, -1);
        SOLD.answers(-2, 1, 3);
        SOLD.answers(-2, 1, MIN);
        SOLD.answers(-2, 1, MAX);
        SOLD.answers(-1, 2, 3);
        SOLD.in(IceSlab::new).answers(-1, 0, 3);
        SOLD.in(IceSlab::new).answers(-1, 0, 0);
    }
}
