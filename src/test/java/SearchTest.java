/** Promises 17 to 21: by hand, and by trying all through the object's own day. */
public final class SearchTest {
    private static final Checks CHECKS = new Checks();

    public static void main(String[] args) {
        best();
        bestByTrying();
        takeOff();
        takeOffByTrying();
        fetch();
        fetchByTrying();
        carried();
        cook();
        fetchOfDrawnStalls();
        fullStall();
        nothingLingers();
        withBeside();
        refused();
        CHECKS.end("SearchTest");
    }

    private static void due(String call, long got, long want) {
        CHECKS.due(call, got, want);
    }

    /** Three sorts, seven who come, by two of which one waits. */
    private static IceSlab busyStall() {
        IceSlab slab = Checks.stallOf("h3;f2491;f3282;f1590");
        slab.buyer(0, 0, 14, 0);
        slab.buyer(1, 0, 17, 0);
        slab.buyer(2, 1, 19, 0);
        slab.buyer(1, 2, 22, 1);
        slab.buyer(2, 2, 13, 1);
        slab.buyer(0, 1, 16, 2);
        slab.buyer(1, 1, 25, 2);
        slab.write(0, 1, 12);
        slab.write(1, 1, 7);
        slab.write(2, 0, 15);
        slab.write(2, 2, 6);
        slab.soup(1);
        slab.beside(true);
        return slab;
    }

    private static void best() {
        IceSlab slab = Checks.stallOf("h2;f2190");
        due("nobody comes: price", slab.best(0, 0, 0), 0);
        due("nobody comes: profit", slab.best(0, 0, 1), -2);
        slab.buyer(0, 0, 12, 0);
        due("one comes: price", slab.best(0, 0, 0), 12);
        due("one comes: profit", slab.best(0, 0, 1), 10);
        due("in the other hour: price", slab.best(0, 1, 0), 0);
        due("in the other hour: profit", slab.best(0, 1, 1), 7);
        slab.buyer(0, 0, 6, 0);
        due("two at 6 or one at 12: price", slab.best(0, 0, 0), 6);
        due("two at 6 or one at 12: profit", slab.best(0, 0, 1), 10);
        slab.buyer(0, 0, 40, 0);
        slab.fish(0, 1);
        due("one of three pays 40: the dearest price there is", slab.best(0, 0, 0), 30);
        due("slate stays", slab.slate(0, 0), 9);
    }

    private static void bestByTrying() {
        for (int s = 0; s < 3; s++) {
            for (int t = 0; t < 3; t++) {
                // A new object for each: no object is asked more than 512 times.
                IceSlab slab = busyStall();
                int was = slab.slate(s, t);
                int choice = -1;
                int most = Integer.MIN_VALUE;
                for (int price = 0; price <= 30; price++) {
                    slab.write(s, t, price);
                    if (slab.day(3) > most) {
                        most = slab.day(3);
                        choice = price;
                    }
                }
                slab.write(s, t, was);
                due("best(" + s + ", " + t + ", 0)", slab.best(s, t, 0), choice);
                due("best(" + s + ", " + t + ", 1)", slab.best(s, t, 1), most);
                due("slate stays", slab.slate(s, t), was);
            }
        }
    }

    private static void takeOff() {
        IceSlab slab = Checks.stallOf("h3;f2190");
        due("nobody comes: profit", slab.takeOff(0), -2);
        due("nobody comes: hour", slab.takeOff(1), -9);
        due("nobody comes: x", slab.takeOff(2), 0);
        slab.buyer(0, 0, 5, 1);
        due("profit", slab.takeOff(0), 3);
        due("the first hour", slab.takeOff(1), 0);
        due("x", slab.takeOff(2), 4);
        slab.buyer(0, 0, 9, 0);
        due("profit", slab.takeOff(0), 12);
        due("an hour later", slab.takeOff(1), 1);
        due("x", slab.takeOff(2), 4);
        due("slate stays", slab.slate(0, 1), 9);
        due("when nothing is more, after that", slab.fish(0, 0), 2);
        due("profit", slab.takeOff(0), 0);
        due("hour", slab.takeOff(1), -9);
        due("x", slab.takeOff(2), 0);
        IceSlab edges = Checks.stallOf("h1;f1090");
        edges.buyer(0, 0, 8, 0);
        due("the least x", edges.takeOff(2), 1);
        due("its profit", edges.takeOff(0), 8);
        edges.write(0, 0, 10);
        due("two off", edges.takeOff(2), 2);
        IceSlab same = Checks.stallOf("h1;f1090");
        same.buyer(0, 0, 0, 0);
        due("given away is no more than left", same.takeOff(1), -9);
        // He waits if it is cheaper in hour 1, in which it isn't worth so much any more: soup pays better than he.
        IceSlab most = Checks.stallOf("h2;f1093");
        most.write(0, 0, 1);
        most.write(0, 1, 30);
        most.buyer(2, 0, 1, 0);
        most.soup(5);
        due("without", most.day(3), 1);
        due("profit", most.takeOff(0), 5);
        due("hour", most.takeOff(1), 1);
        due("the greatest x", most.takeOff(2), 30);
        // No less than 0: who pays 0 gets it for 0, and less goes to soup.
        IceSlab cheap = Checks.stallOf("h1;f2190;f1090");
        cheap.write(1, 0, 30);
        cheap.write(0, 0, 2);
        cheap.buyer(0, 1, 10, 0);
        cheap.buyer(0, 0, 2, 0);
        due("without", cheap.day(3), 0);
        due("profit", cheap.takeOff(0), 8);
        due("x", cheap.takeOff(2), 20);
    }

    private static void takeOffByTrying() {
        int most = busyStall().day(3);
        int hour = -9;
        int off = 0;
        for (int from = 0; from < 3; from++) {
            for (int x = 1; x <= 30; x++) {
                int profit = profitTakingOff(from, x);
                if (profit > most) {
                    most = profit;
                    hour = from;
                    off = x;
                }
            }
        }
        IceSlab slab = busyStall();
        due("takeOff(0)", slab.takeOff(0), most);
        due("takeOff(1)", slab.takeOff(1), hour);
        due("takeOff(2)", slab.takeOff(2), off);
    }

    private static int profitTakingOff(int from, int x) {
        IceSlab slab = busyStall();
        for (int s = 0; s < 3; s++) {
            for (int t = from; t < 3; t++) {
                slab.write(s, t, Math.max(0, slab.slate(s, t) - x));
            }
        }
        return slab.day(3);
    }

    private static void fetch() {
        IceSlab slab = Checks.stallOf("h1;f5290;f5890;f0090");
        due("nobody comes: profit", slab.fetch(-1), 0);
        for (int s = 0; s < 3; s++) {
            due("nobody comes: fish", slab.fetch(s), 0);
        }
        due("no such sort", slab.fetch(3), -9);
        slab.buyer(0, 0, 20, 0);
        slab.buyer(0, 0, 20, 0);
        slab.buyer(1, 1, 20, 0);
        slab.buyer(0, 2, 8, 0);
        due("two of the cheap one, one for nothing", slab.fetch(-1), 2 * 7 + 9);
        due("of the cheap one", slab.fetch(0), 2);
        due("not of the dear one", slab.fetch(1), 0);
        due("of the one for nothing", slab.fetch(2), 1);
        slab.soup(2);
        due("soup pays as much: profit", slab.fetch(-1), 2 * 7 + 9 + 8 * 2);
        due("soup pays as much: the least", slab.fetch(0), 2);
        due("soup pays more", slab.fetch(2), 9);
        slab.soup(9);
        due("soup pays more of all", slab.fetch(0) + slab.fetch(1) + slab.fetch(2), 27);
        due("fish stay", slab.ofSort(0, 0), 5);
    }

    private static void fetchByTrying() {
        for (int soup = 0; soup <= 6; soup++) {
            int most = Integer.MIN_VALUE;
            int choice = 0;
            for (int row = 0; row < 1000; row++) {
                int profit = profitWithFish(soup, row / 100, row / 10 % 10, row % 10);
                if (profit > most) {
                    most = profit;
                    choice = row;
                }
            }
            IceSlab slab = busyStall();
            slab.soup(soup);
            due("fetch(-1)", slab.fetch(-1), most);
            due("fetch(0)", slab.fetch(0), choice / 100);
            due("fetch(1)", slab.fetch(1), choice / 10 % 10);
            due("fetch(2)", slab.fetch(2), choice % 10);
        }
    }

    private static int profitWithFish(int soup, int... fish) {
        IceSlab slab = busyStall();
        slab.soup(soup);
        for (int s = 0; s < fish.length; s++) {
            slab.fish(s, fish[s]);
        }
        return slab.day(3);
    }

    private static void carried() {
        IceSlab slab = Checks.stallOf("h1;f1490;f1290");
        slab.buyer(1, 0, 11, 0);
        due("he would take the other one", slab.carried(0), 3 - 7);
        due("nobody wants it", slab.carried(1), -2);
        due("fish stay", slab.many(3), 2);
        IceSlab busy = busyStall();
        for (int s = 0; s < 3; s++) {
            int with = busy.day(3);
            int carried = busy.carried(s);
            int fish = busy.fish(s, 0);
            due("carried(" + s + ")", carried, with - busy.day(3));
            busy.fish(s, fish);
        }
    }

    private static void cook() {
        IceSlab slab = Checks.stallOf("h3;f3190;f1190");
        slab.buyer(0, 0, 9, 0);
        slab.buyer(0, 0, 9, 1);
        slab.soup(1);
        due("ahead of all: 3 * 4 for 9 + 9 + 1", slab.cook(0, 0, 4), 12 - 19);
        due("behind the first one: 2 * 4 for 9 + 1", slab.cook(0, 1, 4), 8 - 10);
        due("behind both: 4 for 1", slab.cook(0, 2, 4), 3);
        due("for nothing", slab.cook(0, 2, 0), -1);
        due("the dearest", slab.cook(1, 0, 30), 29);
        due("the day goes without him", slab.day(0), 18);
        due("fish stay", slab.many(3), 4);
        slab.fish(0, 1);
        due("none lie there any more", slab.cook(0, 1, 30), 0);
        slab.buyer(2, 0, 9, 0);
        IceSlab beside = Checks.stallOf("h1;f1190;f1190");
        beside.write(1, 0, 10);
        beside.buyer(0, 0, 8, 0);
        beside.beside(true);
        due("he takes the dearer one", beside.cook(1, 0, 5), 5 - 9);
    }

    private static void refused() {
        IceSlab slab = new IceSlab();
        due("new: best", slab.best(0, 0, 0), -1);
        due("new: takeOff(0)", slab.takeOff(0), -3);
        due("new: takeOff(3)", slab.takeOff(3), -2);
        due("new: fetch(-1)", slab.fetch(-1), -3);
        due("new: fetch(3)", slab.fetch(3), -3);
        due("new: fetch(4)", slab.fetch(4), -1);
        due("new: fetch(-2)", slab.fetch(-2), -1);
        due("new: carried", slab.carried(0), -1);
        due("new: cook", slab.cook(0, 0, 0), -1);
        Checks.tellText(slab, "h2;f3190;f1190");
        due("best(2, 0, 2)", slab.best(2, 0, 2), -1);
        due("best(-1, 0, 0)", slab.best(-1, 0, 0), -1);
        due("best(0, 2, 0)", slab.best(0, 2, 0), -1);
        due("best(0, -1, 0)", slab.best(0, -1, 0), -1);
        due("best(0, 0, 2)", slab.best(0, 0, 2), -2);
        due("best(0, 0, -1)", slab.best(0, 0, -1), -2);
        due("takeOff(-1)", slab.takeOff(-1), -2);
        due("takeOff(3)", slab.takeOff(3), -2);
        due("carried(2)", slab.carried(2), -1);
        due("carried(-1)", slab.carried(-1), -1);
        due("cook(2, 0, 31)", slab.cook(2, 0, 31), -1);
        due("cook(-1, 0, 0)", slab.cook(-1, 0, 0), -1);
        due("cook(0, 2, 31)", slab.cook(0, 2, 31), -1);
        due("cook(0, -1, 0)", slab.cook(0, -1, 0), -1);
        due("cook(0, 0, 31)", slab.cook(0, 0, 31), -2);
        due("cook(0, 0, -1)", slab.cook(0, 0, -1), -2);
    }

    /** Small stalls in which much is alike, so that many rows bring as much. */
    private static void fetchOfDrawnStalls() {
        long drawn = 7;
        for (int run = 0; run < 400; run++) {
            int[] d = new int[60];
            for (int i = 0; i < d.length; i++) {
                drawn = drawn * 6364136223846793005L + 1442695040888963407L;
                d[i] = (int) (drawn >>> 40);
            }
            IceSlab slab = Checks.stallOf("h2;f1" + d[0] % 4 + "9" + d[1] % 2 + ";f1" + d[2] % 4 + "9" + d[3] % 2);
            for (int i = 0; i < 4; i++) {
                slab.write(i / 2, i % 2, d[4 + i] % 4);
            }
            for (int x = 0; x < d[8] % 11; x++) {
                slab.buyer(d[10 + x] % 3, d[20 + x] % 2, d[30 + x] % 6, d[40 + x] % 2);
            }
            slab.soup(d[50] % 4);
            slab.beside(d[51] % 2 == 0);
            int most = Integer.MIN_VALUE;
            int choice = 0;
            for (int row = 0; row < 100; row++) {
                slab.fish(0, row / 10);
                slab.fish(1, row % 10);
                if (slab.day(3) > most) {
                    most = slab.day(3);
                    choice = row;
                }
            }
            due("drawn stall " + run + ": fetch(-1)", slab.fetch(-1), most);
            due("drawn stall " + run + ": fetch(0)", slab.fetch(0), choice / 10);
            due("drawn stall " + run + ": fetch(1)", slab.fetch(1), choice % 10);
        }
    }

    private static void fullStall() {
        IceSlab slab = Checks.stallOf("h8;f1190;f1190;f1190;f1190");
        for (int x = 0; x < 10; x++) {
            slab.buyer(0, 3, 40, 7);
        }
        due("ten want one sort: fish", slab.fetch(3), 9);
        due("ten want one sort: profit", slab.fetch(-1), 9 * 8);
        due("none of the first", slab.fetch(0), 0);
        due("best(3, 7, 0)", slab.best(3, 7, 0), 30);
        due("best(3, 7, 1)", slab.best(3, 7, 1), 26);
        due("carried(3)", slab.carried(3), 8);
        due("cook(3, 7, 20)", slab.cook(3, 7, 20), 11);
        due("cook(3, 0, 20)", slab.cook(3, 0, 20), 11);
        due("takeOff(1)", slab.takeOff(1), -9);
    }

    /** What one call has tried is no part of what the next one tries. */
    private static void nothingLingers() {
        IceSlab slab = Checks.stallOf("h2;f2190");
        slab.buyer(0, 0, 12, 0);
        due("cook(0, 0, 30)", slab.cook(0, 0, 30), 60 - 9);
        due("best without the cook: price", slab.best(0, 0, 0), 12);
        due("carried without the cook", slab.carried(0), 7);
        due("takeOff without the cook", slab.takeOff(0), 7);
        due("fetch without the cook: profit", slab.fetch(-1), 8);
        due("cook of the other hour", slab.cook(0, 1, 5), 5);
        due("best without the cook: profit", slab.best(0, 0, 1), 10);
        due("fetch after a greater profit", slab.fetch(-1), 8);
        due("fish of it", slab.fetch(0), 1);
        slab.write(0, 0, 0);
        due("day(3)", slab.day(3), -2);
        due("fetch after more", slab.fetch(-1), 0);
        due("fish of it", slab.fetch(0), 0);
    }

    private static void withBeside() {
        IceSlab slab = Checks.stallOf("h1;f1090;f1090");
        slab.write(1, 0, 30);
        slab.buyer(0, 0, 9, 0);
        due("best(0, 0, 0)", slab.best(0, 0, 0), 9);
        slab.beside(true);
        due("beside: best(0, 0, 0)", slab.best(0, 0, 0), 10);
        due("beside: best(0, 0, 1)", slab.best(0, 0, 1), 10);
        slab.write(0, 0, 10);
        due("beside: carried(1)", slab.carried(1), 10);
        due("beside: fetch(1)", slab.fetch(1), 1);
        due("beside: cook(1, 0, 9)", slab.cook(1, 0, 9), 9 - 10);
        slab.beside(false);
        due("no more beside: carried(1)", slab.carried(1), 0);
        due("no more beside: takeOff(2)", slab.takeOff(2), 1);
    }
}
