/** Promises 27 to 37. */
public final class SheetsTest {
    private static final long LOST = Long.MIN_VALUE;
    private static final Checks CHECKS = new Checks();

    public static void main(String[] args) {
        sheet();
        lose();
        put();
        cell();
        copy();
        copyRefused();
        tell();
        greet();
        as();
        traceWraps();
        fault();
        many();
        CHECKS.end("SheetsTest");
    }

    private static void due(String call, long got, long want) {
        CHECKS.due(call, got, want);
    }

    private static void sheet() {
        IceSlab slab = new IceSlab();
        due("sheet(0, 2, 60)", slab.sheet(0, 2, 60), 1);
        due("cell(0, 59, 2)", slab.cell(0, 59, 2), 0);
        slab.put(0, 0, 7);
        slab.put(0, 59, 7);
        due("sheet(0, 2, 60) again", slab.sheet(0, 2, 60), 1);
        due("0 at first", slab.cell(0, 0, 2), 0);
        due("0 at first", slab.cell(0, 59, 2), 0);
        due("sheet(0, 1, 0)", slab.sheet(0, 1, 0), 1);
        due("no cells", slab.put(0, 0, 1), -13);
        due("sheet(3, 0, 1)", slab.sheet(3, 0, 1), 1);
        due("sheet(4, 9, -1)", slab.sheet(4, 9, -1), -1);
        due("sheet(-1, 0, 1)", slab.sheet(-1, 0, 1), -1);
        due("its fault", slab.fault(), 0);
        due("sheet(3, 3, -1)", slab.sheet(3, 3, -1), -2);
        due("sheet(3, -1, 1)", slab.sheet(3, -1, 1), -2);
        due("sheet(3, 0, 61)", slab.sheet(3, 0, 61), -2);
        due("sheet(3, 0, -1)", slab.sheet(3, 0, -1), -14);
        due("its fault", slab.fault(), 4);
        due("sheet(3, 0, MIN)", slab.sheet(3, 0, Integer.MIN_VALUE), -14);
        due("as it was", slab.put(3, 0, 1), 1);
    }

    private static void lose() {
        IceSlab slab = new IceSlab();
        due("lose(2)", slab.lose(2), 0);
        slab.sheet(2, 0, 0);
        due("lose(2)", slab.lose(2), 1);
        due("lose(2)", slab.lose(2), 0);
        due("put(2, 0, 0)", slab.put(2, 0, 0), -11);
        due("lose(4)", slab.lose(4), -1);
        due("lose(-1)", slab.lose(-1), -1);
        due("the fault is put's", slab.fault(), 1);
    }

    private static void put() {
        IceSlab slab = new IceSlab();
        for (int lane = 0; lane < 3; lane++) {
            slab.sheet(lane, lane, 2);
        }
        int[] values = {127, 128, -128, -129, 255, 256, 32767, 32768, -32768, -32769, 65536, Integer.MAX_VALUE, Integer.MIN_VALUE};
        for (int v : values) {
            for (int lane = 0; lane < 3; lane++) {
                due("put(" + lane + ", 1, " + v + ")", slab.put(lane, 1, v), 1);
            }
            due("as byte", slab.cell(0, 1, 0), (byte) v);
            due("as short", slab.cell(1, 1, 1), (short) v);
            due("as int", slab.cell(2, 1, 2), v);
        }
        due("its neighbour", slab.cell(2, 0, 2), 0);
        due("put(0, 2, 1)", slab.put(0, 2, 1), -13);
        due("put(0, -1, 1)", slab.put(0, -1, 1), -13);
        due("put(0, MAX, 1)", slab.put(0, Integer.MAX_VALUE, 1), -13);
        due("fault()", slab.fault(), 3);
        due("put(3, -1, 1)", slab.put(3, -1, 1), -11);
        due("fault()", slab.fault(), 1);
        due("put(4, -1, 1)", slab.put(4, -1, 1), -1);
        due("put(-1, -1, 1)", slab.put(-1, -1, 1), -1);
        due("fault()", slab.fault(), 0);
    }

    private static void cell() {
        IceSlab slab = new IceSlab();
        Checks.row(slab, 1, 1, 5, -6);
        due("cell(1, 0, 1)", slab.cell(1, 0, 1), 5);
        due("cell(1, 1, 1)", slab.cell(1, 1, 1), -6);
        due("fault()", slab.fault(), 0);
        due("cell(1, 2, 1)", slab.cell(1, 2, 1), LOST);
        due("fault()", slab.fault(), 3);
        due("cell(1, -1, 1)", slab.cell(1, -1, 1), LOST);
        due("fault()", slab.fault(), 3);
        due("cell(1, -1, 0)", slab.cell(1, -1, 0), LOST);
        due("fault()", slab.fault(), 2);
        due("cell(0, -1, 0)", slab.cell(0, -1, 0), LOST);
        due("fault()", slab.fault(), 1);
        due("cell(0, -1, 3)", slab.cell(0, -1, 3), LOST);
        due("fault()", slab.fault(), 0);
        due("cell(1, 0, -1)", slab.cell(1, 0, -1), LOST);
        due("cell(4, 0, 0)", slab.cell(4, 0, 0), LOST);
        due("cell(-1, 0, 0)", slab.cell(-1, 0, 0), LOST);
    }

    private static void dueRow(IceSlab slab, int k, int lane, int... numbers) {
        for (int i = 0; i < numbers.length; i++) {
            due("cell(" + k + ", " + i + ", " + lane + ")", slab.cell(k, i, lane), numbers[i]);
        }
    }

    private static void copy() {
        for (int lane = 0; lane < 3; lane++) {
            IceSlab slab = new IceSlab();
            Checks.row(slab, 0, lane, 1, 2, 3, 4, 5);
            Checks.row(slab, 1, lane, 9, 9, 9);
            due("to another one", slab.copy(0, 2, 1, 1, 2), 2);
            dueRow(slab, 1, lane, 9, 3, 4);
            dueRow(slab, 0, lane, 1, 2, 3, 4, 5);
            due("farther along itself", slab.copy(0, 0, 0, 1, 4), 4);
            dueRow(slab, 0, lane, 1, 1, 2, 3, 4);
            due("back along itself", slab.copy(0, 1, 0, 0, 4), 4);
            dueRow(slab, 0, lane, 1, 2, 3, 4, 4);
            due("none, at both ends", slab.copy(0, 5, 1, 3, 0), 0);
            due("fault()", slab.fault(), 0);
        }
    }

    private static void copyRefused() {
        IceSlab slab = new IceSlab();
        Checks.row(slab, 0, 0, 1, 2, 3);
        Checks.row(slab, 1, 0, 4, 5);
        Checks.row(slab, 2, 1, 6, 7);
        int[][] wrong = {{-1, 0, 1}, {0, -1, 1}, {0, 0, -1}, {0, 0, 3}, {2, 0, 2}, {0, 1, 2}, {4, 0, 0}, {0, 3, 0},
            {1, 0, Integer.MAX_VALUE}, {Integer.MAX_VALUE, 0, Integer.MAX_VALUE}};
        for (int[] w : wrong) {
            due("copy(0, " + w[0] + ", 1, " + w[1] + ", " + w[2] + ")", slab.copy(0, w[0], 1, w[1], w[2]), -13);
            due("fault()", slab.fault(), 3);
        }
        due("unlike lanes", slab.copy(0, -1, 2, 0, 1), -12);
        due("fault()", slab.fault(), 2);
        due("nothing to take", slab.copy(3, -1, 2, 0, 1), -11);
        due("nothing to go to", slab.copy(0, -1, 3, 0, 1), -11);
        due("fault()", slab.fault(), 1);
        due("no such other", slab.copy(3, 0, 4, 0, 1), -1);
        due("no such one", slab.copy(4, 0, 3, 0, 1), -1);
        due("no such one", slab.copy(-1, 0, -1, 0, 1), -1);
        due("fault()", slab.fault(), 0);
        dueRow(slab, 0, 0, 1, 2, 3);
        dueRow(slab, 1, 0, 4, 5);
        dueRow(slab, 2, 1, 6, 7);
    }

    private static void tell() {
        IceSlab slab = Checks.withOneOfEachKind();
        due("tell(0)", slab.tell(0), 12);
        due("trace()", slab.trace(), 1);
        due("tell(1)", slab.tell(1), 114);
        due("trace()", slab.trace(), (1 * 31 + 2) * 31 + 1);
        due("tell(2) of another object", Checks.withOneOfEachKind().tell(2), 130);
        IceSlab other = Checks.withOneOfEachKind();
        other.tell(2);
        due("trace() of it", other.trace(), ((3 * 31 + 2) * 31 + 1) * 31 + 1);
        due("tell(3)", other.tell(3), -1);
        due("tell(-1)", other.tell(-1), -1);
        due("trace() of it", other.trace(), ((3 * 31 + 2) * 31 + 1) * 31 + 1);
    }

    private static void greet() {
        IceSlab slab = Checks.withOneOfEachKind();
        due("greet(1)", slab.greet(1), 1);
        due("trace()", slab.trace(), 4);
        due("greet(2)", slab.greet(2), 60);
        due("trace()", slab.trace(), 4 * 31 + 5);
        due("greet(0)", slab.greet(0), 0);
        due("greet(3)", slab.greet(3), -1);
        due("greet(-1)", slab.greet(-1), -1);
        due("trace()", slab.trace(), (4 * 31 + 5) * 31 + 4);
    }

    private static void as() {
        IceSlab slab = Checks.withOneOfEachKind();
        for (int x = 0; x < 3; x++) {
            for (int kind = 0; kind < 3; kind++) {
                due("as(" + x + ", " + kind + ")", slab.as(x, kind), kind <= x ? 1 : -12);
                due("fault()", slab.fault(), kind <= x ? 0 : 2);
            }
        }
        slab.as(0, 2);
        due("as(2, 3)", slab.as(2, 3), -2);
        due("fault()", slab.fault(), 0);
        due("as(2, -1)", slab.as(2, -1), -2);
        due("as(3, 3)", slab.as(3, 3), -1);
        due("as(-1, 0)", slab.as(-1, 0), -1);
    }

    private static void traceWraps() {
        IceSlab slab = Checks.withOneOfEachKind();
        int trace = 0;
        for (int i = 0; i < 20; i++) {
            slab.greet(2);
            trace = 31 * trace + 5;
            due("trace()", slab.trace(), trace);
        }
    }

    private static void fault() {
        IceSlab slab = new IceSlab();
        due("ahead of any", slab.fault(), 0);
        slab.put(0, 0, 0);
        due("put", slab.fault(), 1);
        due("it stays", slab.fault(), 1);
        slab.trace();
        slab.day(0);
        slab.many(0);
        slab.lose(9);
        slab.right(1, 1, 0);
        slab.soup(1);
        due("calls that name none leave it", slab.fault(), 1);
        slab.sheet(0, 0, 1);
        due("one that came to none", slab.fault(), 0);
        slab.put(0, 1, 0);
        slab.put(9, 0, 0);
        due("one that was refused", slab.fault(), 0);
        slab.put(0, 1, 0);
        slab.as(0, 0);
        due("as, refused", slab.fault(), 0);
        slab.put(0, 1, 0);
        slab.copyOut(0, 0, 0, 0, 0);
        due("copyOut, refused", slab.fault(), 0);
        slab.put(0, 1, 0);
        slab.copy(0, 0, 9, 0, 0);
        due("copy, refused", slab.fault(), 0);
        slab.put(0, 1, 0);
        slab.put(0, 0, 0);
        due("put, done", slab.fault(), 0);
    }

    private static void many() {
        IceSlab slab = Checks.stallOf("h5;f1111;f9111;f3111");
        slab.buyer(0, 0, 40, 0);
        slab.buyer(0, 0, 40, 0);
        slab.beside(true);
        slab.fish(2, 2);
        int[] due = {5, 3, 2, 12, 1};
        for (int what = 0; what < 5; what++) {
            due("many(" + what + ")", slab.many(what), due[what]);
        }
        due("many(5)", slab.many(5), -2);
        due("many(-1)", slab.many(-1), -2);
    }
}
