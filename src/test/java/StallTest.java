/** Promises 1 to 10. */
public final class StallTest {
    private static final Checks CHECKS = new Checks();

    public static void main(String[] args) {
        newObject();
        textsTaken();
        textsRefused();
        cellsOfTexts();
        allAnew();
        ofSort();
        fresh();
        fish();
        slateAndWrite();
        copyOut();
        copyOutRefused();
        soup();
        beside();
        CHECKS.end("StallTest");
    }

    private static void due(String call, long got, long want) {
        CHECKS.due(call, got, want);
    }

    private static void newObject() {
        IceSlab slab = new IceSlab();
        for (int what = 0; what <= 4; what++) {
            due("new: many(" + what + ")", slab.many(what), 0);
        }
        due("new: fault()", slab.fault(), 0);
        due("new: trace()", slab.trace(), 0);
        due("new: ofSort(0, 0)", slab.ofSort(0, 0), -1);
        due("new: fresh(0, 0)", slab.fresh(0, 0), -1);
        due("new: slate(0, 0)", slab.slate(0, 0), -1);
        due("new: buyer(0, 0, 0, 0)", slab.buyer(0, 0, 0, 0), -1);
        due("new: day(0)", slab.day(0), -3);
        for (int k = 0; k < 4; k++) {
            due("new: put(" + k + ", 0, 1)", slab.put(k, 0, 1), -11);
            due("new: lose(" + k + ")", slab.lose(k), 0);
        }
        due("UNKNOWN", IceSlab.UNKNOWN, -1);
        due("OUTSIDE", IceSlab.OUTSIDE, -2);
        due("STATE", IceSlab.STATE, -3);
        due("FULL", IceSlab.FULL, -4);
        due("NONE", IceSlab.NONE, -9);
        due("LOST", IceSlab.LOST, Long.MIN_VALUE);
    }

    private static void textsTaken() {
        String[] texts = {"h1;f0000", "h8;f9993", "h3;f1233;f5671",
            "h4;f1111;f2222;f3333", "h5;f9870;f1230;f4561;f7892"};
        int[] sorts = {1, 1, 2, 3, 4};
        for (int i = 0; i < texts.length; i++) {
            IceSlab slab = new IceSlab();
            due("sorts of " + texts[i], Checks.tellText(slab, texts[i]), sorts[i]);
            due("many(1) of " + texts[i], slab.many(1), sorts[i]);
            due("hours of " + texts[i], slab.many(0), texts[i].charAt(1) - '0');
        }
    }

    private static void textsRefused() {
        String whole = "h4;f1111;f2222;f3333;f1013";
        for (int n = 0; n < whole.length(); n++) {
            if (n < 8 || (n - 2) % 6 != 0) {
                due("first " + n + " codes", Checks.tellText(new IceSlab(), whole.substring(0, n)), -100 - n);
            }
        }
        for (int place = 0; place < whole.length(); place++) {
            for (int code : new int[] {'h' - 1, 'h' + 1, 'f' - 1, 'f' + 1, ';' + 1, '0' - 1, '9' + 1, -1, 'h' + 256}) {
                due("code " + code + " at " + place, withCode(whole, place, code), -100 - place);
            }
        }
        due("no hours", withCode(whole, 1, '0'), -101);
        due("nine hours", withCode(whole, 1, '9'), -101);
        due("fades 4", withCode(whole, 13, '4'), -113);
        due("a fifth sort", Checks.tellText(new IceSlab(), whole + ";f1111"), -126);
        due("a code behind four sorts", Checks.tellText(new IceSlab(), whole + "x"), -126);
        due("a code behind one sort", Checks.tellText(new IceSlab(), "h4;f1111f"), -108);
        due("the first of two faults", Checks.tellText(new IceSlab(), "h4;g1119"), -103);
    }

    private static int withCode(String text, int place, int code) {
        IceSlab slab = new IceSlab();
        Checks.textRow(slab, 0, 2, text);
        slab.put(0, place, code);
        return slab.stall(0, 2, 0, text.length());
    }

    private static void cellsOfTexts() {
        for (int lane = 0; lane < 3; lane++) {
            IceSlab slab = new IceSlab();
            Checks.textRow(slab, 3, lane, "xxh2;f1231yy");
            due("a text amid a row", slab.stall(3, lane, 2, 8), 1);
            due("its fish", slab.ofSort(0, 0), 1);
            due("all of the row", slab.stall(3, lane, 0, 12), -100);
            due("fault of a refused text", slab.fault(), 0);
            due("of another lane", slab.stall(3, (lane + 1) % 3, 2, 8), -12);
            due("its fault", slab.fault(), 2);
            due("n below 0", slab.stall(3, lane, -5, -1), -14);
            due("its fault", slab.fault(), 4);
            due("beyond", slab.stall(3, lane, 5, 8), -13);
            due("its fault", slab.fault(), 3);
            due("i below 0", slab.stall(3, lane, -1, 8), -13);
            due("none taken, at the end", slab.stall(3, lane, 12, 0), -100);
            due("none taken, beyond", slab.stall(3, lane, 13, 0), -13);
            due("far beyond", slab.stall(3, lane, 1, Integer.MAX_VALUE), -13);
            due("farthest", slab.stall(3, lane, Integer.MAX_VALUE, Integer.MAX_VALUE), -13);
            due("lane -1", slab.stall(3, -1, 0, -1), -2);
            due("its fault", slab.fault(), 0);
            due("lane 3", slab.stall(3, 3, 0, 1), -2);
            due("sheet 4", slab.stall(4, 9, 0, 1), -1);
            due("sheet -1", slab.stall(-1, 0, 0, 1), -1);
            due("nothing there", slab.stall(2, lane, -1, -1), -11);
            due("its fault", slab.fault(), 1);
            due("fish as they were", slab.ofSort(0, 0), 1);
        }
    }

    private static void allAnew() {
        IceSlab slab = Checks.stallOf("h2;f1231;f4561");
        Checks.row(slab, 1, 0, 7, 8);
        slab.buyer(2, 0, 20, 0);
        slab.greet(0);
        slab.write(1, 1, 30);
        slab.soup(5);
        slab.beside(true);
        due("a refused text", Checks.tellText(slab, "h2;f1231;"), -109);
        due("buyers stay", slab.many(2), 1);
        due("prices stay", slab.slate(1, 1), 30);
        due("besides stays", slab.many(4), 1);
        due("a new text", Checks.tellText(slab, "h3;f9121;f4561"), 2);
        due("no buyers", slab.many(2), 0);
        due("hours", slab.many(0), 3);
        due("fish", slab.ofSort(0, 0), 9);
        for (int s = 0; s < 2; s++) {
            for (int t = 0; t < 3; t++) {
                due("price anew", slab.slate(s, t), 9);
            }
        }
        due("nothing is beside", slab.many(4), 0);
        due("soup anew", slab.soup(1), 0);
        due("trace stays", slab.trace(), 5);
        due("sheets stay", slab.cell(1, 1, 0), 8);
        due("buyers from 0 on", slab.buyer(0, 0, 1, 0), 0);
    }

    private static void ofSort() {
        IceSlab slab = Checks.stallOf("h2;f1230;f4563");
        int[] due = {1, 2, 3, 0, 4, 5, 6, 3};
        for (int i = 0; i < 8; i++) {
            due("ofSort(" + i / 4 + ", " + i % 4 + ")", slab.ofSort(i / 4, i % 4), due[i]);
        }
        due("ofSort(0, 4)", slab.ofSort(0, 4), -2);
        due("ofSort(0, -1)", slab.ofSort(0, -1), -2);
        due("ofSort(2, 0)", slab.ofSort(2, 0), -1);
        due("ofSort(-1, 9)", slab.ofSort(-1, 9), -1);
    }

    private static void fresh() {
        IceSlab slab = Checks.stallOf("h8;f1290;f4573");
        for (int t = 0; t < 8; t++) {
            due("fresh(0, " + t + ")", slab.fresh(0, t), 9);
        }
        int[] due = {7, 4, 1, 0, 0, 0, 0, 0};
        for (int t = 0; t < 8; t++) {
            due("fresh(1, " + t + ")", slab.fresh(1, t), due[t]);
        }
        due("fresh(1, 8)", slab.fresh(1, 8), -1);
        due("fresh(1, -1)", slab.fresh(1, -1), -1);
        due("fresh(2, 0)", slab.fresh(2, 0), -1);
        due("fresh(-1, 0)", slab.fresh(-1, 0), -1);
    }

    private static void fish() {
        IceSlab slab = Checks.stallOf("h1;f7290;f4573");
        due("fish(0, 0)", slab.fish(0, 0), 7);
        due("fish(0, 9)", slab.fish(0, 9), 0);
        due("ofSort(0, 0)", slab.ofSort(0, 0), 9);
        due("fish(0, 10)", slab.fish(0, 10), -2);
        due("fish(0, -1)", slab.fish(0, -1), -2);
        due("fish(2, -1)", slab.fish(2, -1), -1);
        due("fish(-1, 1)", slab.fish(-1, 1), -1);
        due("many(3)", slab.many(3), 13);
    }

    private static void slateAndWrite() {
        IceSlab slab = Checks.stallOf("h2;f7290;f4573");
        due("slate(1, 1)", slab.slate(1, 1), 9);
        due("write(1, 1, 0)", slab.write(1, 1, 0), 9);
        due("write(1, 1, 30)", slab.write(1, 1, 30), 0);
        due("slate(1, 1)", slab.slate(1, 1), 30);
        due("slate(1, 0)", slab.slate(1, 0), 9);
        due("slate(0, 1)", slab.slate(0, 1), 9);
        due("write(1, 1, 31)", slab.write(1, 1, 31), -2);
        due("write(1, 1, -1)", slab.write(1, 1, -1), -2);
        due("write(1, 2, 31)", slab.write(1, 2, 31), -1);
        due("write(2, 0, 1)", slab.write(2, 0, 1), -1);
        due("slate(1, 2)", slab.slate(1, 2), -1);
        due("slate(2, 1)", slab.slate(2, 1), -1);
        due("slate(-1, 1)", slab.slate(-1, 1), -1);
        due("slate(1, -1)", slab.slate(1, -1), -1);
    }

    private static void copyOut() {
        for (int lane = 0; lane < 3; lane++) {
            IceSlab slab = Checks.stallOf("h3;f7290;f4573");
            Checks.row(slab, 1, lane, 99, 0, 30, 12, 31);
            due("copyOut two", slab.copyOut(1, 1, lane, 1, 2), 2);
            due("slate(1, 0)", slab.slate(1, 0), 0);
            due("slate(1, 1)", slab.slate(1, 1), 30);
            due("slate(1, 2)", slab.slate(1, 2), 9);
            due("slate(0, 0)", slab.slate(0, 0), 9);
            due("copyOut three", slab.copyOut(0, 1, lane, 1, 3), 3);
            due("slate(0, 2)", slab.slate(0, 2), 12);
            due("fault()", slab.fault(), 0);
            due("copyOut one, the last", slab.copyOut(0, 1, lane, 3, 1), 1);
            due("slate(0, 0)", slab.slate(0, 0), 12);
            due("slate(0, 1)", slab.slate(0, 1), 30);
        }
    }

    private static void copyOutRefused() {
        IceSlab slab = Checks.stallOf("h3;f7290;f4573");
        Checks.row(slab, 1, 1, 5, 0, 30, 12, 31, -1);
        due("more than hours", slab.copyOut(0, 1, 1, 0, 4), -2);
        due("none", slab.copyOut(0, 1, 1, 0, 0), -2);
        due("a price above", slab.copyOut(0, 1, 1, 2, 3), -2);
        due("a price below", slab.copyOut(0, 1, 1, 5, 1), -2);
        due("fault of these", slab.fault(), 0);
        due("n below 0", slab.copyOut(0, 1, 1, 0, -1), -14);
        due("its fault", slab.fault(), 4);
        due("no sort, n below 0", slab.copyOut(2, 1, 1, 0, -1), -1);
        due("its fault", slab.fault(), 0);
        due("no sheet", slab.copyOut(0, 4, 9, 0, 1), -1);
        due("no lane", slab.copyOut(0, 1, 3, 0, 1), -2);
        due("another lane", slab.copyOut(0, 1, 0, 0, -1), -12);
        due("its fault", slab.fault(), 2);
        due("nothing", slab.copyOut(0, 2, 0, 0, -1), -11);
        due("its fault", slab.fault(), 1);
        due("beyond", slab.copyOut(0, 1, 1, 4, 3), -13);
        due("more than hours and beyond", slab.copyOut(0, 1, 1, 0, 7), -13);
        due("none, beyond", slab.copyOut(0, 1, 1, 7, 0), -13);
        due("i below 0", slab.copyOut(0, 1, 1, -1, 1), -13);
        for (int t = 0; t < 3; t++) {
            due("the slate as it was", slab.slate(0, t), 9);
        }
    }

    private static void soup() {
        IceSlab slab = new IceSlab();
        due("new: soup(1)", slab.soup(1), -3);
        due("new: soup(10)", slab.soup(10), -2);
        Checks.tellText(slab, "h1;f7290");
        due("soup(9)", slab.soup(9), 0);
        due("soup(0)", slab.soup(0), 9);
        due("soup(10)", slab.soup(10), -2);
        due("soup(-1)", slab.soup(-1), -2);
        due("soup(3)", slab.soup(3), 0);
        due("profit by soup", slab.day(3), 7 * 3 - 7 * 2);
    }

    private static void beside() {
        IceSlab slab = new IceSlab();
        due("new: beside(false)", slab.beside(false), -3);
        due("new: beside(true)", slab.beside(true), -3);
        Checks.tellText(slab, "h1;f7290");
        due("beside(false)", slab.beside(false), 0);
        due("beside(true)", slab.beside(true), 1);
        due("many(4)", slab.many(4), 1);
        due("beside(true) again", slab.beside(true), 0);
        due("beside(false)", slab.beside(false), 1);
        due("many(4)", slab.many(4), 0);
    }
}
