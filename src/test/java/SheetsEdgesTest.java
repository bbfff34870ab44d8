import java.util.function.Consumer;

/** Promises 27 to 37: each sentence of the document that names an edge, by itself. */
public final class SheetsEdgesTest {
    private static final long LOST = Long.MIN_VALUE;
    private static final Checks CHECKS = new Checks();
    private static final Refused SHEET = Refused.naming(CHECKS, "sheet", (x, a) -> x.sheet(a[0], a[1], a[2]));
    private static final Refused LOSE = Refused.notNaming(CHECKS, "lose", (x, a) -> x.lose(a[0]));
    private static final Refused PUT = Refused.naming(CHECKS, "put", (x, a) -> x.put(a[0], a[1], a[2]));
    private static final Refused CELL = Refused.naming(CHECKS, "cell", (x, a) -> x.cell(a[0], a[1], a[2]));
    private static final Refused COPY =
        Refused.naming(CHECKS, "copy", (x, a) -> x.copy(a[0], a[1], a[2], a[3], a[4]));
    private static final Refused TELL = Refused.notNaming(CHECKS, "tell", (x, a) -> x.tell(a[0]));
    private static final Refused GREET = Refused.notNaming(CHECKS, "greet", (x, a) -> x.greet(a[0]));
    private static final Refused AS = Refused.naming(CHECKS, "as", (x, a) -> x.as(a[0], a[1]));
    private static final Refused MANY = Refused.notNaming(CHECKS, "many", (x, a) -> x.many(a[0]));
    private static final int MIN = Integer.MIN_VALUE, MAX = Integer.MAX_VALUE;
    private static final int NULL = 1, CAST = 2, INDEX = 3, SIZE = 4;

    public static void main(String[] args) {
        sheetsZeroToThree();
        sheetLanes();
        sheetUpToSixty();
        sheetOfNoCells();
        sheetSize();
        sheetOrder();
        cellsAreZeroAtFirst();
        cellsAreZeroAnew();
        newRowMayBeOfAnotherLane();
        newRowMayBeShorter();
        loseAnswers();
        loseARowOfNoCells();
        loseForgets();
        loseEdges();

        putCutsToBytes();
        putCutsToShorts();
        putLeavesInts();
        putFirstAndLast();
        putEdges();
        putOrder();
        cellFirstAndLast();
        cellLanes();
        cellOfNothing();
        cellFaults();
        cellOrder();

        copyNone();
        copyAll();
        copyFirstAndLast();
        copyToItselfForward();
        copyToItselfBackward();
        copyToItselfInPlace();
        copyAsTheyWere();
        copySheets();
        copyOfNothing();
        copyCast();
        copyIndex();
        copyOrder();

        tellEachKind();
        tellPayingNothing();
        tellTrace();
        tellEdges();
        greetEachKind();
        greetTrace();
        greetEdges();
        asEachKind();
        asEdges();
        asOrder();

        traceAtFirst();
        traceWraps();
        traceIsLeftByRefusedCalls();
        faultAtFirst();
        faultOfCallsThatNameOne();
        faultIsGoneBehindOneThatIsDone();
        faultIsLeftByCallsThatNameNone();
        manyOfNothing();
        manyAtMost();
        manyFishNotLeft();
        manyEdges();
        CHECKS.end("SheetsEdgesTest");
    }

    private static void due(String call, long got, long want) {
        CHECKS.due(call, got, want);
    }

    private static void dueRow(String told, IceSlab slab, int k, int lane, int... numbers) {
        for (int i = 0; i < numbers.length; i++) {
            due(told + ": cell(" + k + ", " + i + ", " + lane + ")", slab.cell(k, i, lane), numbers[i]);
        }
        due(told + ": behind them", slab.cell(k, numbers.length, lane), LOST);
        due(told + ": fault()", slab.fault(), INDEX);
    }

    // ---- Promises 27 and 28

    /** "SHEETS 0 .. 3" */
    private static void sheetsZeroToThree() {
        IceSlab slab = new IceSlab();
        for (int k = 0; k < 4; k++) {
            due("sheet(" + k + ", 0, 1)", slab.sheet(k, 0, 1), 1);
            due("put(" + k + ", 0, k)", slab.put(k, 0, k + 5), 1);
        }
        for (int k = 0; k < 4; k++) {
            due("cell(" + k + ", 0, 0)", slab.cell(k, 0, 0), k + 5);
        }
        SHEET.answers(-1, -1, 0, 1);
        SHEET.answers(-1, 4, 0, 1);
        SHEET.answers(-1, MIN, 0, 1);
        SHEET.answers(-1, MAX, 0, 1);
    }

    /** "a LANE: 0 bytes, 1 shorts, 2 ints", "OUTSIDE: lane" */
    private static void sheetLanes() {
        for (int lane = 0; lane < 3; lane++) {
            due("sheet(1, " + lane + ", 5)", new IceSlab().sheet(1, lane, 5), 1);
        }
        SHEET.answers(-2, 1, -1, 1);
        SHEET.answers(-2, 1, 3, 1);
        SHEET.answers(-2, 1, MIN, 1);
        SHEET.answers(-2, 1, MAX, 1);
    }

    /** "0 .. 60 numbers", "OUTSIDE: .. n above 60" */
    private static void sheetUpToSixty() {
        for (int lane = 0; lane < 3; lane++) {
            IceSlab slab = new IceSlab();
            due("60", slab.sheet(3, lane, 60), 1);
            due("the last of 60", slab.put(3, 59, 7), 1);
            due("it", slab.cell(3, 59, lane), 7);
            due("behind it", slab.put(3, 60, 7), -13);
            due("61", slab.sheet(3, lane, 61), -2);
            due("as it was", slab.cell(3, 59, lane), 7);
        }
        SHEET.answers(-2, 1, 0, 61);
        SHEET.answers(-2, 1, 0, MAX);
        SHEET.answers(-2, 3, 0, 61);
    }

    /** "a row of 0 .." is something. */
    private static void sheetOfNoCells() {
        for (int lane = 0; lane < 3; lane++) {
            IceSlab slab = new IceSlab();
            due("sheet(0, lane, 0)", slab.sheet(0, lane, 0), 1);
            due("fault()", slab.fault(), 0);
            due("no cell, but no nothing", slab.put(0, 0, 1), -13);
            due("a row of another lane", slab.stall(0, (lane + 1) % 3, 0, 0), -12);
            due("an empty text", slab.stall(0, lane, 0, 0), -100);
            due("lose(0)", slab.lose(0), 1);
        }
    }

    /** "4 SIZE (a length below 0)" */
    private static void sheetSize() {
        SHEET.faults(SIZE, 1, 0, -1);
        SHEET.faults(SIZE, 1, 2, MIN);
        SHEET.faults(SIZE, 3, 0, -1);
    }

    /** "UNKNOWN; OUTSIDE: lane, n above 60; SIZE." */
    private static void sheetOrder() {
        SHEET.answers(-1, 4, 3, -1);
        SHEET.answers(-1, -1, 3, 61);
        SHEET.answers(-2, 1, 3, -1);
        SHEET.answers(-2, 1, -1, 61);
    }

    /** "(0 at first)" */
    private static void cellsAreZeroAtFirst() {
        for (int lane = 0; lane < 3; lane++) {
            IceSlab slab = new IceSlab();
            slab.sheet(2, lane, 60);
            dueRow("new", slab, 2, lane, new int[60]);
        }
    }

    /** "A SHEET gets a new row": of what it had nothing stays. */
    private static void cellsAreZeroAnew() {
        for (int lane = 0; lane < 3; lane++) {
            IceSlab slab = new IceSlab();
            slab.sheet(2, 2, 60);
            for (int i = 0; i < 60; i++) {
                slab.put(2, i, -1 - i);
            }
            slab.sheet(2, lane, 3);
            due("sheet(2, lane, 60)", slab.sheet(2, lane, 60), 1);
            dueRow("anew", slab, 2, lane, new int[60]);
        }
    }

    /** The row's LANE is the new one. */
    private static void newRowMayBeOfAnotherLane() {
        IceSlab slab = new IceSlab();
        Checks.row(slab, 1, 0, 5);
        Checks.row(slab, 1, 2, 70000);
        due("as ints", slab.cell(1, 0, 2), 70000);
        due("as bytes", slab.cell(1, 0, 0), LOST);
        due("fault()", slab.fault(), CAST);
    }

    /** The row's length is the new one. */
    private static void newRowMayBeShorter() {
        IceSlab slab = new IceSlab();
        Checks.row(slab, 1, 0, 5, 6, 7);
        Checks.row(slab, 1, 0, 8);
        dueRow("shorter", slab, 1, 0, 8);
    }

    /** "1; 0: it had nothing." */
    private static void loseAnswers() {
        for (int k = 0; k < 4; k++) {
            IceSlab slab = new IceSlab();
            due("lose(" + k + ") at first", slab.lose(k), 0);
            slab.sheet(k, 2, 60);
            due("lose(" + k + ")", slab.lose(k), 1);
            due("lose(" + k + ") again", slab.lose(k), 0);
        }
    }

    /** A row of no numbers is a row. */
    private static void loseARowOfNoCells() {
        IceSlab slab = new IceSlab();
        slab.sheet(1, 0, 0);
        due("lose(1)", slab.lose(1), 1);
        due("lose(1) again", slab.lose(1), 0);
    }

    /** "A SHEET has nothing": it alone; another row begins at 0. */
    private static void loseForgets() {
        IceSlab slab = new IceSlab();
        Checks.row(slab, 1, 0, 5, 6);
        Checks.row(slab, 2, 0, 7, 8);
        slab.lose(1);
        due("put(1, 0, 1)", slab.put(1, 0, 1), -11);
        due("cell(2, 1, 0)", slab.cell(2, 1, 0), 8);
        slab.sheet(1, 0, 2);
        dueRow("anew", slab, 1, 0, 0, 0);
    }

    /** lose: "UNKNOWN." */
    private static void loseEdges() {
        LOSE.answers(-1, -1);
        LOSE.answers(-1, 4);
        LOSE.answers(-1, MIN);
        LOSE.answers(-1, MAX);
    }

    // ---- Promises 29 and 30

    /** That a row of one number of this LANE cuts the first of each two to the second. */
    private static void dueCut(int lane, int[][] cuts) {
        for (int[] cut : cuts) {
            IceSlab slab = new IceSlab();
            slab.sheet(0, lane, 1);
            due("put(0, 0, " + cut[0] + ")", slab.put(0, 0, cut[0]), 1);
            due("it, of lane " + lane, slab.cell(0, 0, lane), cut[1]);
        }
    }

    /** "what comes to a cell of it is cut to its LANE (with its sign)": bytes. */
    private static void putCutsToBytes() {
        dueCut(0, new int[][] {{0, 0}, {127, 127}, {128, -128}, {-128, -128}, {-129, 127}, {255, -1}, {256, 0},
            {-256, 0}, {383, 127}, {384, -128}, {32767, -1}, {MAX, -1}, {MIN, 0}, {-1, -1}});
    }

    /** The same of shorts. */
    private static void putCutsToShorts() {
        dueCut(1, new int[][] {{0, 0}, {128, 128}, {-129, -129}, {255, 255}, {32767, 32767}, {32768, -32768},
            {-32768, -32768}, {-32769, 32767}, {65535, -1}, {65536, 0}, {MAX, -1}, {MIN, 0}, {-1, -1}});
    }

    /** The same of ints: nothing is cut. */
    private static void putLeavesInts() {
        dueCut(2, new int[][] {{0, 0}, {128, 128}, {32768, 32768}, {-32769, -32769}, {65536, 65536}, {MAX, MAX},
            {MIN, MIN}, {-1, -1}});
    }

    /** Cell 0, the last cell, and none beside them. */
    private static void putFirstAndLast() {
        IceSlab slab = new IceSlab();
        slab.sheet(0, 1, 4);
        due("put(0, 0, 5)", slab.put(0, 0, 5), 1);
        due("put(0, 3, 6)", slab.put(0, 3, 6), 1);
        dueRow("both", slab, 0, 1, 5, 0, 0, 6);
    }

    /** put: "UNKNOWN; NULL; INDEX." */
    private static void putEdges() {
        PUT.answers(-1, -1, 0, 1);
        PUT.answers(-1, 4, 0, 1);
        PUT.answers(-1, MAX, 0, 1);
        PUT.faults(NULL, 3, 0, 1);
        PUT.faults(INDEX, 1, -1, 1);
        PUT.faults(INDEX, 1, 5, 1);
        PUT.faults(INDEX, 1, 60, 1);
        PUT.faults(INDEX, 1, MIN, 1);
        PUT.faults(INDEX, 1, MAX, 1);
    }

    /** "of several the first in the order in which a call's line tells them" */
    private static void putOrder() {
        PUT.answers(-1, 4, -1, 1);
        PUT.faults(NULL, 3, -1, 1);
        PUT.faults(NULL, 3, MAX, 1);
    }

    /** Cell 0, the last cell. */
    private static void cellFirstAndLast() {
        for (int lane = 0; lane < 3; lane++) {
            IceSlab slab = new IceSlab();
            Checks.row(slab, 0, lane, 5, 0, -6);
            due("cell 0", slab.cell(0, 0, lane), 5);
            due("cell 2", slab.cell(0, 2, lane), -6);
            due("fault()", slab.fault(), 0);
        }
    }

    /** "taken as a row of a LANE": "CAST", where it is none; "OUTSIDE: lane" */
    private static void cellLanes() {
        for (int lane = 0; lane < 3; lane++) {
            for (int taken = 0; taken < 3; taken++) {
                IceSlab slab = new IceSlab();
                Checks.row(slab, 0, lane, 5);
                due("lane " + lane + " as " + taken, slab.cell(0, 0, taken), lane == taken ? 5 : LOST);
                due("fault()", slab.fault(), lane == taken ? 0 : CAST);
            }
        }
        CELL.loses(0, 1, 0, -1);
        CELL.loses(0, 1, 0, 3);
        CELL.loses(0, 1, 0, MAX);
    }

    /** "CAST (nothing is no CAST), NULL" */
    private static void cellOfNothing() {
        for (int lane = 0; lane < 3; lane++) {
            CELL.loses(NULL, 3, 0, lane);
        }
        IceSlab slab = new IceSlab();
        Checks.row(slab, 0, 2, 5);
        slab.lose(0);
        due("a row that was lost", slab.cell(0, 0, 0), LOST);
        due("fault()", slab.fault(), NULL);
    }

    /** cell: "LOST: UNKNOWN, ..; FAULTS .. INDEX" */
    private static void cellFaults() {
        CELL.loses(0, -1, 0, 0);
        CELL.loses(0, 4, 0, 0);
        CELL.loses(0, MIN, 0, 0);
        CELL.loses(INDEX, 1, -1, 0);
        CELL.loses(INDEX, 1, 5, 0);
        CELL.loses(INDEX, 1, 60, 0);
        CELL.loses(INDEX, 1, MIN, 0);
        CELL.loses(INDEX, 1, MAX, 0);
        CELL.loses(INDEX, 2, 9, 1);
    }

    /** "in the order": seen by fault(), as all answer LOST. */
    private static void cellOrder() {
        CELL.loses(0, 4, -1, 3);
        CELL.loses(0, 3, -1, 3);
        CELL.loses(0, 1, -1, 3);
        CELL.loses(NULL, 3, -1, 0);
        CELL.loses(CAST, 1, -1, 1);
    }

    // ---- Promise 31

    private static IceSlab twoRows(int lane) {
        IceSlab slab = new IceSlab();
        Checks.row(slab, 0, lane, 1, 2, 3, 4, 5);
        Checks.row(slab, 1, lane, -1, -2, -3);
        return slab;
    }

    /** n 0, at both ends of both rows. */
    private static void copyNone() {
        IceSlab slab = twoRows(0);
        due("from 0 to 0", slab.copy(0, 0, 1, 0, 0), 0);
        due("from the end to the end", slab.copy(0, 5, 1, 3, 0), 0);
        due("within itself", slab.copy(0, 5, 0, 5, 0), 0);
        due("fault()", slab.fault(), 0);
        dueRow("the one", slab, 0, 0, 1, 2, 3, 4, 5);
        dueRow("the other", slab, 1, 0, -1, -2, -3);
        due("empty rows", emptyRows().copy(0, 0, 1, 0, 0), 0);
        due("one of empty rows", emptyRows().copy(0, 0, 1, 0, 1), -13);
    }

    private static IceSlab emptyRows() {
        IceSlab slab = new IceSlab();
        slab.sheet(0, 1, 0);
        slab.sheet(1, 1, 0);
        return slab;
    }

    /** All 60. */
    private static void copyAll() {
        for (int lane = 0; lane < 3; lane++) {
            IceSlab slab = new IceSlab();
            slab.sheet(2, lane, 60);
            slab.sheet(3, lane, 60);
            int[] numbers = new int[60];
            for (int i = 0; i < 60; i++) {
                numbers[i] = i - 30;
                slab.put(2, i, i - 30);
            }
            due("copy(2, 0, 3, 0, 60)", slab.copy(2, 0, 3, 0, 60), 60);
            dueRow("all", slab, 3, lane, numbers);
            due("copy(2, 0, 3, 0, 61)", slab.copy(2, 0, 3, 0, 61), -13);
        }
    }

    /** The last ones of a row go to the first ones, and the other way round. */
    private static void copyFirstAndLast() {
        IceSlab slab = twoRows(1);
        due("the last two to the first", slab.copy(0, 3, 1, 0, 2), 2);
        dueRow("them", slab, 1, 1, 4, 5, -3);
        due("the first two to the last", slab.copy(1, 0, 0, 3, 2), 2);
        due("the first one to the last", slab.copy(0, 0, 1, 2, 1), 1);
        dueRow("it", slab, 1, 1, 4, 5, 1);
        dueRow("the one", slab, 0, 1, 1, 2, 3, 4, 5);
    }

    /** "to another one (perhaps the same) .., as they were": forward over themselves. */
    private static void copyToItselfForward() {
        IceSlab slab = twoRows(2);
        due("by 1", slab.copy(0, 0, 0, 1, 4), 4);
        dueRow("by 1", slab, 0, 2, 1, 1, 2, 3, 4);
        slab = twoRows(2);
        due("by 2", slab.copy(0, 0, 0, 2, 3), 3);
        dueRow("by 2", slab, 0, 2, 1, 2, 1, 2, 3);
    }

    /** The same backward. */
    private static void copyToItselfBackward() {
        IceSlab slab = twoRows(2);
        due("by 1", slab.copy(0, 1, 0, 0, 4), 4);
        dueRow("by 1", slab, 0, 2, 2, 3, 4, 5, 5);
        slab = twoRows(2);
        due("by 2", slab.copy(0, 2, 0, 0, 3), 3);
        dueRow("by 2", slab, 0, 2, 3, 4, 5, 4, 5);
    }

    /** The same to where they are. */
    private static void copyToItselfInPlace() {
        IceSlab slab = twoRows(0);
        due("all", slab.copy(0, 0, 0, 0, 5), 5);
        dueRow("all", slab, 0, 0, 1, 2, 3, 4, 5);
    }

    /** "as they were": the least and the greatest of each LANE. */
    private static void copyAsTheyWere() {
        int[][] ends = {{-128, 127}, {-32768, 32767}, {MIN, MAX}};
        for (int lane = 0; lane < 3; lane++) {
            IceSlab slab = new IceSlab();
            Checks.row(slab, 0, lane, ends[lane]);
            slab.sheet(1, lane, 2);
            slab.copy(0, 0, 1, 0, 2);
            dueRow("ends", slab, 1, lane, ends[lane]);
            dueRow("they stay", slab, 0, lane, ends[lane]);
        }
    }

    /** copy: "UNKNOWN": either. */
    private static void copySheets() {
        int[] wrong = {-1, 4, MIN, MAX};
        for (int k : wrong) {
            COPY.answers(-1, k, 0, 1, 0, 1);
            COPY.answers(-1, 1, 0, k, 0, 1);
            COPY.answers(-1, k, 0, k, 0, 1);
            COPY.answers(-1, 3, 0, k, 0, 1);
            COPY.answers(-1, k, 0, 3, 0, 1);
        }
    }

    /** "FAULTS NULL (the first, the other)" */
    private static void copyOfNothing() {
        COPY.faults(NULL, 3, 0, 1, 0, 1);
        COPY.faults(NULL, 1, 0, 3, 0, 1);
        COPY.faults(NULL, 3, 0, 3, 0, 0);
    }

    /** "CAST (unlike LANES)": each two of them. */
    private static void copyCast() {
        for (int lane = 0; lane < 3; lane++) {
            for (int other = 0; other < 3; other++) {
                IceSlab slab = new IceSlab();
                Checks.row(slab, 0, lane, 5);
                Checks.row(slab, 1, other, 6);
                due("lane " + lane + " to " + other, slab.copy(0, 0, 1, 0, 1), lane == other ? 1 : -12);
                due("none of them", slab.copy(0, 0, 1, 0, 0), lane == other ? 0 : -12);
                due("fault()", slab.fault(), lane == other ? 0 : CAST);
                due("the other", slab.cell(1, 0, other), lane == other ? 5 : 6);
            }
        }
        COPY.faults(CAST, 1, 0, 2, 0, 1);
        COPY.faults(CAST, 2, 0, 1, 0, 0);
    }

    /** "INDEX: i, j, n below 0 or beyond": each by itself. */
    private static void copyIndex() {
        int[][] wrong = {{-1, 0, 1}, {0, -1, 1}, {0, 0, -1}, {5, 0, 1}, {0, 3, 1}, {0, 0, 4}, {3, 0, 3}, {0, 1, 3},
            {6, 0, 0}, {0, 4, 0}, {-1, 0, 0}, {0, -1, 0}, {MIN, 0, 0}, {0, MIN, 0}, {0, 0, MIN}, {MAX, 0, 1},
            {0, MAX, 1}, {0, 0, MAX}, {1, 1, MAX}, {MAX, MAX, MAX}, {MAX, 0, MIN}, {5, 3, -1}, {5, 3, 1}};
        for (int[] w : wrong) {
            IceSlab slab = twoRows(0);
            String call = "copy(0, " + w[0] + ", 1, " + w[1] + ", " + w[2] + ")";
            due(call, slab.copy(0, w[0], 1, w[1], w[2]), -13);
            due("fault() behind " + call, slab.fault(), INDEX);
            dueRow("the one", slab, 0, 0, 1, 2, 3, 4, 5);
            dueRow("the other", slab, 1, 0, -1, -2, -3);
        }
        COPY.faults(INDEX, 1, 0, 1, 1, 5);
        COPY.faults(INDEX, 1, 1, 1, 0, 5);
    }

    /** "UNKNOWN; FAULTS NULL (the first, the other), CAST .., INDEX" */
    private static void copyOrder() {
        COPY.answers(-1, 4, -1, 3, -1, -1);
        COPY.answers(-1, 3, -1, 4, -1, -1);
        COPY.faults(NULL, 3, -1, 1, -1, -1);
        COPY.faults(NULL, 2, -1, 3, -1, -1);
        COPY.faults(CAST, 2, -1, 1, -1, -1);
    }

    // ---- Promises 32 to 34

    /** "BUYER (1): what he PAYS. CHOOSING (2): .. and 100. WAITING (3): .. and what BUYER's gives" */
    private static void tellEachKind() {
        int[] due = {12, 114, 130};
        for (int x = 0; x < 3; x++) {
            due("tell(" + x + ")", Checks.withOneOfEachKind().tell(x), due[x]);
        }
        IceSlab slab = Checks.stallOf("h2;f1111");
        for (int kind = 0; kind < 3; kind++) {
            slab.buyer(kind, 0, 40, 0);
        }
        due("pays 40", slab.tell(0), 40);
        due("choosing, pays 40", slab.tell(1), 140);
        due("waiting, pays 40", slab.tell(2), 180);
    }

    /** "PAYS at most (0 ..": 100 alone is left. */
    private static void tellPayingNothing() {
        IceSlab slab = Checks.stallOf("h2;f1111");
        int[] due = {0, 100, 100};
        for (int kind = 0; kind < 3; kind++) {
            slab.buyer(kind, 0, 0, 0);
            due("pays 0, of kind " + kind, slab.tell(kind), due[kind]);
        }
    }

    /** "as they begin": who calls another one is ahead of it. "(CHOOSING's left out)" */
    private static void tellTrace() {
        int[] due = {1, 2 * 31 + 1, ((3 * 31 + 2) * 31 + 1) * 31 + 1};
        for (int x = 0; x < 3; x++) {
            IceSlab slab = Checks.withOneOfEachKind();
            slab.tell(x);
            due("trace() behind tell(" + x + ")", slab.trace(), due[x]);
        }
    }

    /** tell: "UNKNOWN." */
    private static void tellEdges() {
        TELL.answers(-1, -1);
        TELL.answers(-1, 3);
        TELL.answers(-1, MIN);
        TELL.answers(-1, MAX);
        TELL.in(IceSlab::new).answers(-1, 0);
    }

    /** "GREETED by a lent body (4): the number of that BUYER; WAITING ones have their own (5): 60." */
    private static void greetEachKind() {
        due("greet(0)", Checks.withOneOfEachKind().greet(0), 0);
        due("greet(1)", Checks.withOneOfEachKind().greet(1), 1);
        due("greet(2)", Checks.withOneOfEachKind().greet(2), 60);
        IceSlab slab = Checks.stallOf("h1;f1111");
        for (int x = 0; x < 10; x++) {
            slab.buyer(x % 2, 0, 0, 0);
        }
        due("greet(9)", slab.greet(9), 9);
        due("greet(8)", slab.greet(8), 8);
    }

    /** The numbers that it leaves. */
    private static void greetTrace() {
        int[] due = {4, 4, 5};
        for (int x = 0; x < 3; x++) {
            IceSlab slab = Checks.withOneOfEachKind();
            slab.greet(x);
            due("trace() behind greet(" + x + ")", slab.trace(), due[x]);
        }
    }

    /** greet: "UNKNOWN." */
    private static void greetEdges() {
        GREET.answers(-1, -1);
        GREET.answers(-1, 3);
        GREET.answers(-1, MIN);
        GREET.answers(-1, MAX);
        GREET.in(IceSlab::new).answers(-1, 0);
    }

    /** "A BUYER, taken as one of a kind: 1", "CAST: he is none": "1 CHOOSING, a BUYER; 2 WAITING, a CHOOSING" */
    private static void asEachKind() {
        for (int x = 0; x < 3; x++) {
            for (int kind = 0; kind < 3; kind++) {
                if (kind <= x) {
                    IceSlab slab = Checks.withOneOfEachKind();
                    due("as(" + x + ", " + kind + ")", slab.as(x, kind), 1);
                    due("fault()", slab.fault(), 0);
                    due("trace()", slab.trace(), 0);
                } else {
                    AS.faults(CAST, x, kind);
                }
            }
        }
    }

    /** as: "UNKNOWN; OUTSIDE" */
    private static void asEdges() {
        AS.answers(-1, -1, 0);
        AS.answers(-1, 3, 0);
        AS.answers(-1, MIN, 0);
        AS.answers(-1, MAX, 0);
        AS.answers(-2, 0, -1);
        AS.answers(-2, 2, 3);
        AS.answers(-2, 2, MIN);
        AS.answers(-2, 2, MAX);
        AS.in(IceSlab::new).answers(-1, 0, 0);
    }

    /** "UNKNOWN; OUTSIDE; CAST" */
    private static void asOrder() {
        AS.answers(-1, 3, 3);
        AS.answers(-1, -1, -1);
        AS.answers(-2, 0, 3);
    }

    // ---- Promises 35 to 37

    /** "0 at first" */
    private static void traceAtFirst() {
        due("trace()", new IceSlab().trace(), 0);
        due("with buyers", Checks.withOneOfEachKind().trace(), 0);
    }

    /** "an int that wraps": beyond the greatest and, from there, beyond the least. */
    private static void traceWraps() {
        IceSlab slab = Checks.withOneOfEachKind();
        int trace = 0;
        int above = 0;
        int below = 0;
        for (int i = 0; i < 60; i++) {
            int number = i % 2 == 0 ? 4 : 5;
            long unwrapped = 31L * trace + number;
            above += unwrapped > MAX ? 1 : 0;
            below += unwrapped < MIN ? 1 : 0;
            trace = (int) unwrapped;
            slab.greet(i % 2 == 0 ? 0 : 2);
            due("trace() behind " + (i + 1), slab.trace(), trace);
        }
        due("it wrapped both ways", above > 0 && below > 0 ? 1 : 0, 1);
        int wrapped = trace;
        slab.tell(2);
        for (int number : new int[] {3, 2, 1, 1}) {
            wrapped = 31 * wrapped + number;
        }
        due("trace() behind tell(2)", slab.trace(), wrapped);
    }

    /** "They change nothing" */
    private static void traceIsLeftByRefusedCalls() {
        IceSlab slab = Checks.withOneOfEachKind();
        slab.greet(0);
        slab.greet(3);
        slab.tell(-1);
        slab.as(0, 2);
        due("trace()", slab.trace(), 4);
    }

    /** "(0 ahead of any)" */
    private static void faultAtFirst() {
        IceSlab slab = new IceSlab();
        due("fault()", slab.fault(), 0);
        slab.trace();
        slab.day(0);
        slab.right(1, 1, 0);
        due("behind calls that name none", slab.fault(), 0);
    }

    /** "The FAULT of the latest call that names one": each of them; asked twice, it is the same. */
    private static void faultOfCallsThatNameOne() {
        dueFault("stall", NULL, x -> x.stall(3, 0, 0, 0));
        dueFault("copyOut", CAST, x -> x.copyOut(0, 1, 1, 0, 1));
        dueFault("mean", SIZE, x -> x.mean(1, 0, 0, -1, 0, 0, 0, 0, 0));
        dueFault("howMany", SIZE, x -> x.howMany(1, 0, 0, -1, 0, 0, 0));
        dueFault("rests", INDEX, x -> x.rests(1, 0, 0));
        dueFault("mixed", INDEX, x -> x.mixed(1, 0, 0, 0, 0));
        dueFault("sheet", SIZE, x -> x.sheet(0, 0, -1));
        dueFault("put", INDEX, x -> x.put(1, 5, 0));
        dueFault("cell", CAST, x -> x.cell(1, 0, 1));
        dueFault("copy", CAST, x -> x.copy(1, 0, 2, 0, 1));
        dueFault("as", CAST, x -> x.as(0, 2));
    }

    private static void dueFault(String told, int fault, Consumer<IceSlab> call) {
        IceSlab slab = Refused.busy();
        slab.put(fault == NULL ? 1 : 3, 9, 0);
        call.accept(slab);
        due("fault() behind " + told, slab.fault(), fault);
        due("fault() once more behind " + told, slab.fault(), fault);
    }

    /** "0: it came to none": each call that names FAULTS, done. */
    private static void faultIsGoneBehindOneThatIsDone() {
        dueFault("stall, done", 0, x -> due("stall", x.stall(0, 2, 0, 14), 2));
        dueFault("copyOut, done", 0, x -> due("copyOut", x.copyOut(0, 2, 1, 1, 3), 3));
        dueFault("mean, done", 0, x -> due("mean", x.mean(2, 1, 1, 8, 0, 0, 0, 0, 1), 1));
        dueFault("howMany, done", 0, x -> due("howMany", x.howMany(2, 1, 1, 8, 0, 0, 0), 0));
        dueFault("rests, done", 0, x -> due("rests", x.rests(2, 1, 1), 8));
        dueFault("mixed, none such", 0, x -> due("mixed", x.mixed(2, 1, 1, 0, 0), LOST));
        dueFault("sheet, done", 0, x -> due("sheet", x.sheet(0, 0, 1), 1));
        dueFault("put, done", 0, x -> due("put", x.put(1, 4, 0), 1));
        dueFault("cell, done", 0, x -> due("cell", x.cell(1, 4, 0), 9));
        dueFault("copy, done", 0, x -> due("copy", x.copy(1, 0, 1, 1, 2), 2));
        dueFault("as, done", 0, x -> due("as", x.as(2, 1), 1));
    }

    /** "the latest call that NAMES one": all others leave it, done or refused. */
    private static void faultIsLeftByCallsThatNameNone() {
        IceSlab slab = Refused.busy();
        slab.put(3, 0, 0);
        slab.ofSort(0, 0);
        slab.fresh(0, 0);
        slab.fish(0, 1);
        slab.slate(0, 0);
        slab.write(0, 0, 1);
        slab.soup(1);
        slab.beside(false);
        due("the stall's", slab.fault(), NULL);
        slab.buyer(0, 0, 1, 0);
        slab.ofBuyer(0, 0);
        slab.worth(0, 0, 0);
        slab.day(0);
        slab.bought(0, 0);
        slab.sold(0, 0);
        due("the buyers'", slab.fault(), NULL);
        slab.best(0, 0, 0);
        slab.takeOff(0);
        slab.fetch(-1);
        slab.carried(0);
        slab.cook(0, 0, 1);
        slab.right(1, 1, 0);
        due("what brings the most, right", slab.fault(), NULL);
        slab.lose(0);
        slab.tell(0);
        slab.greet(0);
        slab.trace();
        slab.many(0);
        due("lose, tell, greet, trace, many", slab.fault(), NULL);
        slab.lose(9);
        slab.tell(9);
        slab.greet(9);
        slab.many(9);
        slab.right(0, 0, 0);
        slab.day(9);
        due("refused ones", slab.fault(), NULL);
    }

    /** Without a STALL nothing is many. */
    private static void manyOfNothing() {
        for (int what = 0; what < 5; what++) {
            due("many(" + what + ")", new IceSlab().many(what), 0);
        }
    }

    /** The greatest of each. */
    private static void manyAtMost() {
        IceSlab slab = Checks.stallOf("h8;f9111;f9111;f9111;f9111");
        for (int x = 0; x < 11; x++) {
            slab.buyer(0, 0, 1, 0);
        }
        slab.beside(true);
        int[] due = {8, 4, 10, 36, 1};
        for (int what = 0; what < 5; what++) {
            due("many(" + what + ")", slab.many(what), due[what]);
        }
    }

    /** "3 FISH of all SORTS": as they lie there ahead of THE DAY, none at the least. */
    private static void manyFishNotLeft() {
        IceSlab slab = Checks.stallOf("h1;f1090;f2090");
        slab.buyer(0, 0, 9, 0);
        due("day(2)", slab.day(2), 2);
        due("many(3)", slab.many(3), 3);
        slab.fish(0, 0);
        slab.fish(1, 0);
        due("many(3)", slab.many(3), 0);
    }

    /** many: "OUTSIDE." */
    private static void manyEdges() {
        MANY.answers(-2, -1);
        MANY.answers(-2, 5);
        MANY.answers(-2, MIN);
        MANY.answers(-2, MAX);
        MANY.in(IceSlab::new).answers(-2, 5);
        MANY.in(IceSlab::new).answers(-2, -1);
    }
}
