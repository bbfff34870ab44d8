/** Promises 1 to 10: each sentence of the document that names an edge, by itself. */
public final class StallEdgesTest {
    private static final Checks CHECKS = new Checks();
    private static final Refused STALL = Refused.naming(CHECKS, "stall", (x, a) -> x.stall(a[0], a[1], a[2], a[3]));
    private static final Refused OF_SORT = Refused.notNaming(CHECKS, "ofSort", (x, a) -> x.ofSort(a[0], a[1]));
    private static final Refused FRESH = Refused.notNaming(CHECKS, "fresh", (x, a) -> x.fresh(a[0], a[1]));
    private static final Refused FISH = Refused.notNaming(CHECKS, "fish", (x, a) -> x.fish(a[0], a[1]));
    private static final Refused SLATE = Refused.notNaming(CHECKS, "slate", (x, a) -> x.slate(a[0], a[1]));
    private static final Refused WRITE = Refused.notNaming(CHECKS, "write", (x, a) -> x.write(a[0], a[1], a[2]));
    private static final Refused COPY_OUT =
        Refused.naming(CHECKS, "copyOut", (x, a) -> x.copyOut(a[0], a[1], a[2], a[3], a[4]));
    private static final Refused SOUP = Refused.notNaming(CHECKS, "soup", (x, a) -> x.soup(a[0]));
    private static final Refused BESIDE = Refused.notNaming(CHECKS, "beside", (x, a) -> x.beside(a[0] != 0));
    private static final int MIN = Integer.MIN_VALUE, MAX = Integer.MAX_VALUE;
    private static final int NULL = 1, CAST = 2, INDEX = 3, SIZE = 4;

    public static void main(String[] args) {
        newHasNoSorts();
        newHasNoHours();
        newSheetsHaveNothing();
        newBesideAnother();
        lastOfAllCalls();

        hoursFromOneToEight();
        hoursFromZeroOn();
        atLeastOneSort();
        atMostFourSorts();
        sortsFromZeroOn();
        digitsOfASort();
        fadesUpToThree();
        firstFaultAtEachPlace();
        firstOfTwoFaults();
        faultBeforeTheEnd();
        endsTooSoon();
        noCodesAtAll();
        onlyTheCodesThatAreTaken();
        placeIsOfTheTextNotOfTheRow();
        codesAreNotCut();
        textInLongestRow();
        takenTextLeavesNoBuyers();
        takenTextMakesPricesNine();
        takenTextMakesSoupZero();
        takenTextLeavesNothingBeside();
        takenTextLeavesSheets();
        takenTextLeavesTrace();
        takenTextForgetsSortsAndHours();
        untakenTextChangesNothing();
        stallSheets();
        stallLanes();
        stallCast();
        stallNothingIsNoCast();
        stallSize();
        stallIndex();
        stallIndexOfNoCells();
        stallOrder();

        ofSortEdges();
        freshIsAtLeastZero();
        freshEdges();
        fishEdges();
        fishOfSoldOutStall();
        slateEdges();
        writeEdges();
        writeOneCellOnly();

        copyOutHours();
        copyOutPrices();
        copyOutFromHourZero();
        copyOutLooksAtTakenCellsOnly();
        copyOutSortsSheetsLanes();
        copyOutFaults();
        copyOutIndexOfNoCells();
        copyOutOrder();

        soupEdges();
        soupWithoutStall();
        besideAnswers();
        besideWithoutStall();
        CHECKS.end("StallEdgesTest");
    }

    private static void due(String call, long got, long want) {
        CHECKS.due(call, got, want);
    }

    private static int tell(String text) {
        return Checks.tellText(new IceSlab(), text);
    }

    private static String with(String text, int place, int code) {
        return text.substring(0, place) + (char) code + text.substring(place + 1);
    }

    // ---- Promise 1

    /** "No STALL (no SORTS ..)" */
    private static void newHasNoSorts() {
        IceSlab slab = new IceSlab();
        due("new: many(1)", slab.many(1), 0);
        due("new: many(3)", slab.many(3), 0);
        for (int what = 0; what < 4; what++) {
            due("new: ofSort(0, " + what + ")", slab.ofSort(0, what), -1);
        }
        due("new: fish(0, 1)", slab.fish(0, 1), -1);
        due("new: sold(0, 0)", slab.sold(0, 0), -1);
        due("new: carried(0)", slab.carried(0), -1);
    }

    /** "No STALL (.. no HOURS)" */
    private static void newHasNoHours() {
        IceSlab slab = new IceSlab();
        due("new: many(0)", slab.many(0), 0);
        due("new: fresh(0, 0)", slab.fresh(0, 0), -1);
        due("new: slate(0, 0)", slab.slate(0, 0), -1);
        due("new: write(0, 0, 1)", slab.write(0, 0, 1), -1);
        due("new: buyer(0, 0, 1, 0)", slab.buyer(0, 0, 1, 0), -1);
    }

    /** "SHEETS have nothing." */
    private static void newSheetsHaveNothing() {
        for (int k = 0; k < 4; k++) {
            due("new: lose(" + k + ")", new IceSlab().lose(k), 0);
            due("new: put(" + k + ", 0, 0)", new IceSlab().put(k, 0, 0), -11);
            due("new: stall of sheet " + k, new IceSlab().stall(k, 0, 0, 0), -11);
        }
    }

    /** "A new object": so also where another one has all. */
    private static void newBesideAnother() {
        IceSlab busy = Refused.busy();
        long[] before = Refused.seen(Refused.busy());
        IceSlab slab = new IceSlab();
        for (int what = 0; what < 5; what++) {
            due("many(" + what + ") beside another", slab.many(what), 0);
        }
        due("trace() beside another", slab.trace(), 0);
        due("lose(1) beside another", slab.lose(1), 0);
        Checks.tellText(slab, "h1;f9993");
        slab.buyer(0, 0, 40, 0);
        slab.greet(0);
        slab.day(3);
        long[] behind = Refused.seen(busy);
        for (int i = 0; i < before.length; i++) {
            due("the other one, answer " + i, behind[i], before[i]);
        }
    }

    /** "at most 512 calls after it has been made": the last of them is answered as any. */
    private static void lastOfAllCalls() {
        IceSlab slab = new IceSlab();
        slab.sheet(0, 2, 60);
        for (int call = 2; call < 512; call++) {
            due("call " + call, slab.put(0, call % 60, call), 1);
        }
        due("call 512", slab.cell(0, 511 % 60, 2), 511);
    }

    // ---- Promise 2: the TEXT

    /** "h and a digit 1 .. 8" */
    private static void hoursFromOneToEight() {
        for (int digit = 1; digit <= 8; digit++) {
            due("h" + digit, tell("h" + digit + ";f1111"), 1);
        }
        due("h0", tell("h0;f1111"), -101);
        due("h9", tell("h9;f1111"), -101);
    }

    /** "HOURS, from 0 on" */
    private static void hoursFromZeroOn() {
        for (int hours = 1; hours <= 8; hours++) {
            IceSlab slab = Checks.stallOf("h" + hours + ";f1191");
            due("many(0)", slab.many(0), hours);
            due("hour 0", slab.fresh(0, 0), 9);
            due("the last hour", slab.fresh(0, hours - 1), 9 - (hours - 1));
            due("behind the last hour", slab.fresh(0, hours), -1);
            due("ahead of hour 0", slab.fresh(0, -1), -1);
        }
    }

    /** "then 1 to 4 SORTS": none is too few. */
    private static void atLeastOneSort() {
        due("no sort", tell("h3"), -102);
        due("one sort", tell("h3;f1111"), 1);
    }

    /** "1 to 4 SORTS", "(the ; of a fifth SORT)" */
    private static void atMostFourSorts() {
        due("four sorts", tell("h3;f1111;f1111;f1111;f1111"), 4);
        due("the ; of a fifth sort", tell("h3;f1111;f1111;f1111;f1111;"), -126);
        due("a fifth sort", tell("h3;f1111;f1111;f1111;f1111;f1111"), -126);
    }

    /** "numbered from 0 on" */
    private static void sortsFromZeroOn() {
        IceSlab slab = Checks.stallOf("h1;f6111;f7111;f8111;f9111");
        for (int s = 0; s < 4; s++) {
            due("fish of sort " + s, slab.ofSort(s, 0), 6 + s);
        }
        due("sort 4", slab.ofSort(4, 0), -1);
    }

    /** "FISH (0 .. 9), COST of one (0 .. 9), FRESH (0 .. 9)", "digits 48 .. 57" */
    private static void digitsOfASort() {
        String text = "h3;f1111";
        for (int what = 0; what < 3; what++) {
            for (int digit = 0; digit <= 9; digit++) {
                IceSlab slab = Checks.stallOf(with(text, 4 + what, '0' + digit));
                due("ofSort(0, " + what + ")", slab.ofSort(0, what), digit);
            }
            due("code 47 for " + what, tell(with(text, 4 + what, 47)), -104 - what);
            due("code 58 for " + what, tell(with(text, 4 + what, 58)), -104 - what);
        }
    }

    /** "FADES (0 .. 3)" */
    private static void fadesUpToThree() {
        for (int fades = 0; fades <= 3; fades++) {
            due("fades " + fades, Checks.stallOf("h3;f111" + fades).ofSort(0, 3), fades);
        }
        due("fades 4", tell("h3;f1114"), -107);
        due("fades 9", tell("h3;f1119"), -107);
        due("code 47", tell("h3;f111/"), -107);
        due("fades 4 of the fourth sort", tell("h3;f1111;f1111;f1111;f1114"), -125);
    }

    /** "FIRST FAULT: the place (from 0 on) of the first code with which no TEXT goes on" */
    private static void firstFaultAtEachPlace() {
        String text = "h3;f1111;f1111;f1111;f1111";
        for (int place = 0; place < text.length(); place++) {
            due("x at " + place, tell(with(text, place, 'x')), -100 - place);
        }
        due("h for f", tell("h3;h1111"), -103);
        due("f for h", tell("f3;f1111"), -100);
        due("f for ;", tell("h3ff1111"), -102);
        due("; for f", tell("h3;;1111"), -103);
        due("a digit too many", tell("h3;f11111"), -108);
    }

    /** "the FIRST code with which .." */
    private static void firstOfTwoFaults() {
        due("at 1 and 3", tell("h9;g1111"), -101);
        due("at 7 and 9", tell("h3;f1114;g1111"), -107);
        due("at 8 and then a fifth sort", tell("h3;f1111x;f1111;f1111;f1111"), -108);
    }

    /** A fault is told ahead of what is missing behind it. */
    private static void faultBeforeTheEnd() {
        due("h9 and no more", tell("h9"), -101);
        due("x and no more", tell("x"), -100);
        due("a digit missing, too", tell("h3;g111"), -103);
    }

    /** "how many codes there are, if it just ends too soon" */
    private static void endsTooSoon() {
        String text = "h3;f1111;f1111;f1111;f1111";
        for (int n = 1; n < text.length(); n++) {
            boolean whole = n > 2 && (n - 2) % 6 == 0;
            due("the first " + n + " codes", tell(text.substring(0, n)), whole ? (n - 2) / 6 : -100 - n);
        }
    }

    /** The same of an empty TEXT. */
    private static void noCodesAtAll() {
        due("no codes of an empty row", tell(""), -100);
        IceSlab slab = new IceSlab();
        Checks.textRow(slab, 1, 1, "h3;f1111");
        due("no codes of a whole text", slab.stall(1, 1, 0, 0), -100);
    }

    /** "a TEXT of n cells of a SHEET from i on" */
    private static void onlyTheCodesThatAreTaken() {
        IceSlab slab = new IceSlab();
        Checks.textRow(slab, 1, 0, "xh3;f1233;f5671x");
        due("two sorts amid the row", slab.stall(1, 0, 1, 14), 2);
        due("fish of the second one", slab.ofSort(1, 0), 5);
        due("the first sort only", slab.stall(1, 0, 1, 8), 1);
        due("many(1)", slab.many(1), 1);
        due("the code behind it, too", slab.stall(1, 0, 1, 15), -114);
        due("the code ahead of it, too", slab.stall(1, 0, 0, 9), -100);
    }

    /** "the place (from 0 on)" of the TEXT, wherever it begins in its row. */
    private static void placeIsOfTheTextNotOfTheRow() {
        IceSlab slab = new IceSlab();
        Checks.textRow(slab, 1, 0, "xxxh3;g1111");
        due("a fault at 3 of the text", slab.stall(1, 0, 3, 8), -103);
        due("ends too soon behind 2", slab.stall(1, 0, 3, 2), -102);
    }

    /** Codes of wider LANES are the numbers that they are. */
    private static void codesAreNotCut() {
        IceSlab slab = new IceSlab();
        Checks.row(slab, 1, 1, 'h' + 256, '3', ';', 'f', '1', '1', '1', '1');
        due("a short that ends as h", slab.stall(1, 1, 0, 8), -100);
        Checks.row(slab, 1, 2, 'h', '3' + 65536, ';', 'f', '1', '1', '1', '1');
        due("an int that ends as 3", slab.stall(1, 2, 0, 8), -101);
        Checks.row(slab, 1, 2, 'h', '3', ';', 'f', MIN, '1', '1', '1');
        due("the least int", slab.stall(1, 2, 0, 8), -104);
        Checks.row(slab, 1, 0, 'h' + 256, '3', ';', 'f', '1', '1', '1', '1');
        due("a byte was cut as it came", slab.stall(1, 0, 0, 8), 1);
    }

    /** A TEXT may end with the last of 60 cells. */
    private static void textInLongestRow() {
        IceSlab slab = new IceSlab();
        Checks.textRow(slab, 3, 2, "x".repeat(34) + "h8;f1111;f2222;f3333;f9993");
        due("the last 26 of 60", slab.stall(3, 2, 34, 26), 4);
        due("fish of the last one", slab.ofSort(3, 0), 9);
        due("one more", slab.stall(3, 2, 34, 27), -13);
    }

    /** "A TEXT that is taken makes all anew ..: no BUYERS" */
    private static void takenTextLeavesNoBuyers() {
        IceSlab slab = Checks.stallOf("h2;f1111");
        for (int x = 0; x < 10; x++) {
            slab.buyer(0, 0, 40, 0);
        }
        Checks.tellText(slab, "h2;f1111");
        due("many(2)", slab.many(2), 0);
        due("ofBuyer(0, 0)", slab.ofBuyer(0, 0), -1);
        due("day(1)", slab.day(1), 0);
        due("buyers come from 0 on again", slab.buyer(1, 0, 3, 1), 0);
        due("ofBuyer(0, 2)", slab.ofBuyer(0, 2), 3);
    }

    /** "all prices 9" */
    private static void takenTextMakesPricesNine() {
        IceSlab slab = Checks.stallOf("h8;f1111;f1111;f1111;f1111");
        for (int s = 0; s < 4; s++) {
            for (int t = 0; t < 8; t++) {
                due("at first: slate(" + s + ", " + t + ")", slab.slate(s, t), 9);
                slab.write(s, t, 30 - t);
            }
        }
        Checks.tellText(slab, "h2;f1111");
        Checks.tellText(slab, "h8;f1111;f1111;f1111;f1111");
        for (int s = 0; s < 4; s++) {
            for (int t = 0; t < 8; t++) {
                due("anew: slate(" + s + ", " + t + ")", slab.slate(s, t), 9);
            }
        }
    }

    /** "SOUP 0" */
    private static void takenTextMakesSoupZero() {
        IceSlab slab = Checks.stallOf("h2;f2111");
        due("at first", slab.soup(9), 0);
        Checks.tellText(slab, "h2;f2111");
        due("day(3) without soup", slab.day(3), -2);
        due("anew", slab.soup(1), 0);
    }

    /** "nothing is BESIDE" */
    private static void takenTextLeavesNothingBeside() {
        IceSlab slab = Checks.stallOf("h2;f2111");
        due("at first: many(4)", slab.many(4), 0);
        slab.beside(true);
        Checks.tellText(slab, "h2;f2111");
        due("anew: many(4)", slab.many(4), 0);
        due("anew: beside(false)", slab.beside(false), 0);
    }

    /** "but for SHEETS" */
    private static void takenTextLeavesSheets() {
        IceSlab slab = new IceSlab();
        Checks.row(slab, 1, 0, 7, -8);
        Checks.row(slab, 2, 1, 300);
        Checks.tellText(slab, "h2;f2111");
        due("bytes", slab.cell(1, 1, 0), -8);
        due("shorts", slab.cell(2, 0, 1), 300);
        due("the text itself", slab.cell(0, 0, 2), 'h');
        due("nothing stays nothing", slab.lose(3), 0);
    }

    /** "and TRACE" */
    private static void takenTextLeavesTrace() {
        IceSlab slab = Checks.stallOf("h2;f2111");
        slab.buyer(0, 0, 1, 0);
        slab.greet(0);
        Checks.tellText(slab, "h2;f2111");
        due("trace()", slab.trace(), 4);
        slab.buyer(0, 0, 1, 0);
        slab.tell(0);
        due("trace() goes on", slab.trace(), 4 * 31 + 1);
    }

    /** "makes all anew": fewer SORTS and HOURS than there were. */
    private static void takenTextForgetsSortsAndHours() {
        IceSlab slab = Checks.stallOf("h8;f9111;f9111;f9111;f9111");
        slab.fish(0, 3);
        Checks.tellText(slab, "h1;f2345");
        due("refused, so as it was", slab.many(1), 4);
        due("refused, so as it was", slab.ofSort(0, 0), 3);
        Checks.tellText(slab, "h1;f2343");
        due("many(0)", slab.many(0), 1);
        due("many(1)", slab.many(1), 1);
        due("many(3)", slab.many(3), 2);
        due("sort 1", slab.ofSort(1, 0), -1);
        due("hour 1", slab.slate(0, 1), -1);
        int[] due = {2, 3, 4, 3};
        for (int what = 0; what < 4; what++) {
            due("ofSort(0, " + what + ")", slab.ofSort(0, what), due[what]);
        }
    }

    /** "They change nothing": of -100 less the FIRST FAULT, too; it is no FAULT of the machine's. */
    private static void untakenTextChangesNothing() {
        STALL.answers(-100, 1, 0, 0, 5);
        STALL.answers(-100, 2, 1, 0, 9);
        STALL.answers(-102, 0, 2, 0, 2);
        STALL.answers(-113, 0, 2, 0, 13);
        STALL.answers(-100, 0, 2, 14, 0);
    }

    // ---- Promise 2: how it is refused

    /** "UNKNOWN": SHEETS 0 .. 3. */
    private static void stallSheets() {
        STALL.answers(-1, -1, 0, 0, 1);
        STALL.answers(-1, 4, 0, 0, 1);
        STALL.answers(-1, MIN, MIN, MIN, MIN);
        STALL.answers(-1, MAX, MAX, MAX, MAX);
        for (int k = 0; k < 4; k++) {
            IceSlab slab = new IceSlab();
            Checks.textRow(slab, k, 0, "h1;f1111");
            due("a text of sheet " + k, slab.stall(k, 0, 0, 8), 1);
        }
    }

    /** "OUTSIDE: lane" */
    private static void stallLanes() {
        STALL.answers(-2, 0, -1, 0, 14);
        STALL.answers(-2, 0, 3, 0, 14);
        STALL.answers(-2, 0, MAX, 0, 14);
        for (int lane = 0; lane < 3; lane++) {
            IceSlab slab = new IceSlab();
            Checks.textRow(slab, 2, lane, "h1;f1111");
            due("a text of lane " + lane, slab.stall(2, lane, 0, 8), 1);
            due("fault()", slab.fault(), 0);
        }
    }

    /** "2 CAST (it is of another LANE ..)" */
    private static void stallCast() {
        for (int lane = 0; lane < 3; lane++) {
            for (int taken = 0; taken < 3; taken++) {
                IceSlab slab = new IceSlab();
                Checks.textRow(slab, 2, lane, "h1;f1111");
                due("lane " + lane + " as " + taken, slab.stall(2, taken, 0, 8), lane == taken ? 1 : -12);
            }
        }
        STALL.faults(CAST, 0, 0, 0, 14);
        STALL.faults(CAST, 0, 1, 0, 14);
    }

    /** "CAST (nothing is no CAST); NULL" */
    private static void stallNothingIsNoCast() {
        for (int lane = 0; lane < 3; lane++) {
            STALL.faults(NULL, 3, lane, 0, 1);
        }
        IceSlab slab = Checks.stallOf("h1;f1111");
        slab.lose(0);
        due("a row that was lost, of its lane", slab.stall(0, 2, 0, 8), -11);
        due("a row that was lost, of another lane", slab.stall(0, 1, 0, 8), -11);
        due("many(1)", slab.many(1), 1);
    }

    /** "SIZE: n below 0" */
    private static void stallSize() {
        STALL.faults(SIZE, 0, 2, 0, -1);
        STALL.faults(SIZE, 0, 2, 0, MIN);
    }

    /** "3 INDEX" */
    private static void stallIndex() {
        STALL.faults(INDEX, 0, 2, -1, 14);
        STALL.faults(INDEX, 0, 2, 0, 15);
        STALL.faults(INDEX, 0, 2, 1, 14);
        STALL.faults(INDEX, 0, 2, 14, 1);
        STALL.faults(INDEX, 0, 2, MIN, 1);
        STALL.faults(INDEX, 0, 2, MAX, 1);
        STALL.faults(INDEX, 0, 2, 1, MAX);
        STALL.faults(INDEX, 0, 2, MAX, MAX);
        STALL.faults(INDEX, 0, 2, MIN, MAX);
    }

    /** "INDEX (of cells from i on also where i is not 0 .. how many there are, if none of them is taken, too)" */
    private static void stallIndexOfNoCells() {
        STALL.faults(INDEX, 0, 2, -1, 0);
        STALL.faults(INDEX, 0, 2, 15, 0);
        STALL.faults(INDEX, 0, 2, MIN, 0);
        STALL.faults(INDEX, 0, 2, MAX, 0);
        STALL.answers(-100, 0, 2, 0, 0);
        STALL.answers(-100, 0, 2, 14, 0);
    }

    /** "of several the first in the order in which a call's line tells them" */
    private static void stallOrder() {
        STALL.answers(-1, 4, 3, -1, -1);
        STALL.answers(-2, 3, 3, -1, -1);
        STALL.answers(-2, 0, 3, -1, -1);
        STALL.faults(NULL, 3, 0, -1, -1);
        STALL.faults(CAST, 0, 0, -1, -1);
        STALL.faults(CAST, 0, 0, -1, 1);
        STALL.faults(SIZE, 0, 2, -1, -1);
        STALL.faults(SIZE, 0, 2, 99, -1);
        STALL.faults(INDEX, 1, 0, 0, 6);
    }

    // ---- Promises 3 to 7

    /** ofSort: "UNKNOWN; OUTSIDE." */
    private static void ofSortEdges() {
        OF_SORT.answers(-1, -1, 0);
        OF_SORT.answers(-1, 2, 0);
        OF_SORT.answers(-1, MIN, 0);
        OF_SORT.answers(-1, MAX, 0);
        OF_SORT.answers(-2, 0, -1);
        OF_SORT.answers(-2, 1, 4);
        OF_SORT.answers(-2, 1, MIN);
        OF_SORT.answers(-2, 1, MAX);
        OF_SORT.answers(-1, 2, 4);
        OF_SORT.in(IceSlab::new).answers(-1, 0, 4);
    }

    /** "as FRESH as told, less t times FADES (0 at least)" */
    private static void freshIsAtLeastZero() {
        IceSlab slab = Checks.stallOf("h8;f1193;f1023;f1010;f1161");
        int[][] due = {{9, 6, 3, 0, 0, 0, 0, 0}, {2, 0, 0, 0, 0, 0, 0, 0}, {1, 1, 1, 1, 1, 1, 1, 1},
            {6, 5, 4, 3, 2, 1, 0, 0}};
        for (int s = 0; s < 4; s++) {
            for (int t = 0; t < 8; t++) {
                due("fresh(" + s + ", " + t + ")", slab.fresh(s, t), due[s][t]);
            }
        }
    }

    /** fresh: "UNKNOWN." */
    private static void freshEdges() {
        FRESH.answers(-1, -1, 0);
        FRESH.answers(-1, 2, 0);
        FRESH.answers(-1, 0, -1);
        FRESH.answers(-1, 1, 3);
        FRESH.answers(-1, MAX, MAX);
        FRESH.answers(-1, MIN, MIN);
        FRESH.answers(-1, 0, MAX);
        FRESH.in(IceSlab::new).answers(-1, 0, 0);
    }

    /** fish: "UNKNOWN; OUTSIDE.", "FISH (0 .. 9)" */
    private static void fishEdges() {
        IceSlab slab = Checks.stallOf("h1;f7111;f3111");
        due("fish(0, 0)", slab.fish(0, 0), 7);
        due("fish(0, 9)", slab.fish(0, 9), 0);
        due("ofSort(0, 0)", slab.ofSort(0, 0), 9);
        due("ofSort(1, 0)", slab.ofSort(1, 0), 3);
        FISH.answers(-2, 0, -1);
        FISH.answers(-2, 0, 10);
        FISH.answers(-2, 1, MIN);
        FISH.answers(-2, 1, MAX);
        FISH.answers(-1, -1, 0);
        FISH.answers(-1, 2, 0);
        FISH.answers(-1, 2, 10);
        FISH.in(IceSlab::new).answers(-1, 0, 10);
    }

    /** "FISH of a SORT become v: what they were", of all and of none. */
    private static void fishOfSoldOutStall() {
        IceSlab slab = Checks.stallOf("h1;f1090");
        slab.buyer(0, 0, 9, 0);
        due("sold(0, 0)", slab.sold(0, 0), 0);
        due("what lay there, not what is left", slab.fish(0, 0), 1);
        due("day(1)", slab.day(1), 0);
        due("fish(0, 2)", slab.fish(0, 2), 0);
        due("day(2)", slab.day(2), 1);
    }

    /** slate: "UNKNOWN." */
    private static void slateEdges() {
        SLATE.answers(-1, -1, 0);
        SLATE.answers(-1, 2, 0);
        SLATE.answers(-1, 0, -1);
        SLATE.answers(-1, 1, 3);
        SLATE.answers(-1, MIN, MAX);
        SLATE.answers(-1, MAX, MIN);
        SLATE.in(IceSlab::new).answers(-1, 0, 0);
    }

    /** write: "UNKNOWN; OUTSIDE.", "a price (0 .. 30)" */
    private static void writeEdges() {
        IceSlab slab = Checks.stallOf("h2;f7111;f3111");
        due("write(0, 0, 0)", slab.write(0, 0, 0), 9);
        due("write(0, 0, 30)", slab.write(0, 0, 30), 0);
        due("slate(0, 0)", slab.slate(0, 0), 30);
        WRITE.answers(-2, 0, 0, -1);
        WRITE.answers(-2, 1, 2, 31);
        WRITE.answers(-2, 0, 0, MIN);
        WRITE.answers(-2, 0, 0, MAX);
        WRITE.answers(-1, -1, 0, 5);
        WRITE.answers(-1, 2, 0, 5);
        WRITE.answers(-1, 0, -1, 5);
        WRITE.answers(-1, 0, 3, 5);
        WRITE.answers(-1, 2, 0, 31);
        WRITE.answers(-1, 0, 3, -1);
        WRITE.in(IceSlab::new).answers(-1, 0, 0, 31);
    }

    /** "a price of each SORT in each HOUR": the first and the last of them. */
    private static void writeOneCellOnly() {
        IceSlab slab = Checks.stallOf("h8;f1111;f1111;f1111;f1111");
        due("write(0, 0, 1)", slab.write(0, 0, 1), 9);
        due("write(3, 7, 2)", slab.write(3, 7, 2), 9);
        for (int s = 0; s < 4; s++) {
            for (int t = 0; t < 8; t++) {
                int due = s == 0 && t == 0 ? 1 : s == 3 && t == 7 ? 2 : 9;
                due("slate(" + s + ", " + t + ")", slab.slate(s, t), due);
            }
        }
    }

    // ---- Promise 8

    /** "from HOUR 0 on (1 .. HOURS)": one, all; none and one more are OUTSIDE. */
    private static void copyOutHours() {
        for (int hours = 1; hours <= 8; hours++) {
            IceSlab slab = Checks.stallOf("h" + hours + ";f1111;f1111");
            Checks.row(slab, 1, 0, 20, 21, 22, 23, 24, 25, 26, 27, 28);
            due("one", slab.copyOut(1, 1, 0, 8, 1), 1);
            due("it", slab.slate(1, 0), 28);
            due("all", slab.copyOut(1, 1, 0, 0, hours), hours);
            due("the last one", slab.slate(1, hours - 1), 19 + hours);
            due("one more than hours", slab.copyOut(1, 1, 0, 0, hours + 1), -2);
            due("none", slab.copyOut(1, 1, 0, 1, 0), -2);
            due("as it was", slab.slate(1, 0), 20);
            due("the other sort", slab.slate(0, 0), 9);
        }
        COPY_OUT.answers(-2, 0, 2, 1, 1, 4);
        COPY_OUT.answers(-2, 0, 2, 1, 1, 0);
    }

    /** "OUTSIDE: .. a price": 0 .. 30; of no cell anything comes over. */
    private static void copyOutPrices() {
        IceSlab slab = Checks.stallOf("h3;f1111");
        Checks.row(slab, 1, 2, 0, 30, 0);
        due("0 and 30", slab.copyOut(0, 1, 2, 0, 3), 3);
        due("slate(0, 0)", slab.slate(0, 0), 0);
        due("slate(0, 1)", slab.slate(0, 1), 30);
        int[] wrong = {-1, 31, MIN, MAX};
        for (int price : wrong) {
            for (int place = 0; place < 3; place++) {
                Checks.row(slab, 1, 2, 5, 5, 5);
                slab.put(1, place, price);
                due(price + " at " + place, slab.copyOut(0, 1, 2, 0, 3), -2);
                due("fault()", slab.fault(), 0);
                due("slate(0, 0) as it was", slab.slate(0, 0), 0);
                due("slate(0, 1) as it was", slab.slate(0, 1), 30);
                due("slate(0, 2) as it was", slab.slate(0, 2), 0);
            }
        }
        COPY_OUT.answers(-2, 0, 1, 0, 0, 2);
        COPY_OUT.answers(-2, 1, 2, 1, 0, 1);
    }

    /** "becomes n such cells, from HOUR 0 on": the HOURS behind them stay. */
    private static void copyOutFromHourZero() {
        IceSlab slab = Checks.stallOf("h4;f1111");
        slab.write(0, 3, 17);
        Checks.row(slab, 1, 1, 1, 2, 3, 4);
        due("two from cell 2 on", slab.copyOut(0, 1, 1, 2, 2), 2);
        int[] due = {3, 4, 9, 17};
        for (int t = 0; t < 4; t++) {
            due("slate(0, " + t + ")", slab.slate(0, t), due[t]);
        }
    }

    /** A wrong number beside the n cells is none of theirs. */
    private static void copyOutLooksAtTakenCellsOnly() {
        IceSlab slab = Checks.stallOf("h4;f1111");
        Checks.row(slab, 1, 1, 31, 2, 3, -1);
        due("the two amid", slab.copyOut(0, 1, 1, 1, 2), 2);
        due("slate(0, 1)", slab.slate(0, 1), 3);
    }

    /** "UNKNOWN: SORT, SHEET; OUTSIDE: lane" */
    private static void copyOutSortsSheetsLanes() {
        COPY_OUT.answers(-1, -1, 2, 1, 1, 2);
        COPY_OUT.answers(-1, 2, 2, 1, 1, 2);
        COPY_OUT.answers(-1, MAX, 2, 1, 1, 2);
        COPY_OUT.answers(-1, 0, -1, 1, 1, 2);
        COPY_OUT.answers(-1, 0, 4, 1, 1, 2);
        COPY_OUT.answers(-2, 0, 2, -1, 1, 2);
        COPY_OUT.answers(-2, 0, 2, 3, 1, 2);
        COPY_OUT.in(IceSlab::new).answers(-1, 0, 0, 0, 0, 1);
    }

    /** "CAST; NULL; SIZE; INDEX" */
    private static void copyOutFaults() {
        COPY_OUT.faults(CAST, 0, 2, 0, 1, 2);
        COPY_OUT.faults(CAST, 0, 2, 2, 1, 2);
        COPY_OUT.faults(NULL, 0, 3, 0, 1, 2);
        COPY_OUT.faults(SIZE, 0, 2, 1, 1, -1);
        COPY_OUT.faults(SIZE, 0, 2, 1, 1, MIN);
        COPY_OUT.faults(INDEX, 0, 2, 1, -1, 2);
        COPY_OUT.faults(INDEX, 0, 2, 1, 8, 2);
        COPY_OUT.faults(INDEX, 0, 2, 1, 9, 1);
        COPY_OUT.faults(INDEX, 0, 2, 1, MAX, 1);
        COPY_OUT.faults(INDEX, 0, 2, 1, 1, MAX);
        COPY_OUT.faults(INDEX, 0, 2, 1, MIN, 1);
    }

    /** "INDEX (.. if none of them is taken, too)", ahead of "OUTSIDE: n" */
    private static void copyOutIndexOfNoCells() {
        COPY_OUT.faults(INDEX, 0, 2, 1, -1, 0);
        COPY_OUT.faults(INDEX, 0, 2, 1, 10, 0);
        COPY_OUT.answers(-2, 0, 2, 1, 0, 0);
        COPY_OUT.answers(-2, 0, 2, 1, 9, 0);
    }

    /** "of several the first in the order in which a call's line tells them" */
    private static void copyOutOrder() {
        COPY_OUT.answers(-1, 2, 2, 3, -1, -1);
        COPY_OUT.answers(-1, 0, 4, 3, -1, -1);
        COPY_OUT.answers(-2, 0, 3, 3, -1, -1);
        COPY_OUT.answers(-2, 0, 2, 3, -1, -1);
        COPY_OUT.faults(NULL, 0, 3, 2, -1, -1);
        COPY_OUT.faults(CAST, 0, 2, 2, -1, -1);
        COPY_OUT.faults(SIZE, 0, 2, 1, -1, -1);
        COPY_OUT.faults(INDEX, 0, 2, 1, 0, 10);
        COPY_OUT.faults(INDEX, 0, 2, 1, -1, 0);
    }

    // ---- Promises 9 and 10

    /** soup: "SOUP (0 .. 9)", "OUTSIDE" */
    private static void soupEdges() {
        IceSlab slab = Checks.stallOf("h1;f1111");
        due("soup(9)", slab.soup(9), 0);
        due("soup(0)", slab.soup(0), 9);
        due("soup(0)", slab.soup(0), 0);
        SOUP.answers(-2, -1);
        SOUP.answers(-2, 10);
        SOUP.answers(-2, MIN);
        SOUP.answers(-2, MAX);
    }

    /** "OUTSIDE; STATE: there is no STALL." */
    private static void soupWithoutStall() {
        SOUP.in(IceSlab::new).answers(-3, 0);
        SOUP.in(IceSlab::new).answers(-3, 9);
        SOUP.in(IceSlab::new).answers(-2, 10);
        SOUP.in(IceSlab::new).answers(-2, -1);
        IceSlab slab = new IceSlab();
        slab.soup(5);
        Checks.tellText(slab, "h1;f1111");
        due("what was refused", slab.soup(5), 0);
    }

    /** "1; 0: it was so." */
    private static void besideAnswers() {
        IceSlab slab = Checks.stallOf("h1;f1111");
        due("beside(false) at first", slab.beside(false), 0);
        due("beside(true)", slab.beside(true), 1);
        due("beside(true) again", slab.beside(true), 0);
        due("many(4)", slab.many(4), 1);
        due("beside(false)", slab.beside(false), 1);
        due("beside(false) again", slab.beside(false), 0);
        due("many(4)", slab.many(4), 0);
    }

    /** "STATE: there is no STALL." */
    private static void besideWithoutStall() {
        BESIDE.in(IceSlab::new).answers(-3, 1);
        BESIDE.in(IceSlab::new).answers(-3, 0);
        IceSlab slab = new IceSlab();
        slab.beside(true);
        Checks.tellText(slab, "h1;f1111");
        due("what was refused", slab.many(4), 0);
        Checks.tellText(slab, "x");
        due("a text that is not taken leaves the stall", slab.beside(true), 1);
    }
}
