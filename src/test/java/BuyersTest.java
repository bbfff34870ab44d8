/** Promises 11 to 16. */
public final class BuyersTest {
    private static final Checks CHECKS = new Checks();

    public static void main(String[] args) {
        buyer();
        ofBuyer();
        worth();
        worthBeside();
        plainDay();
        refusedDays();
        priceUpToWorth();
        ownSortFirst();
        choosingOthers();
        waiting();
        waitingChooses();
        waitingForGoneSort();
        byNumbers();
        besideWhileItLies();
        gone();
        fullStall();
        CHECKS.end("BuyersTest");
    }

    private static void due(String call, long got, long want) {
        CHECKS.due(call, got, want);
    }

    private static void dueBought(IceSlab slab, int x, int sort, int hour, int price, int came) {
        due("bought(" + x + ", 0)", slab.bought(x, 0), sort);
        due("bought(" + x + ", 1)", slab.bought(x, 1), hour);
        due("bought(" + x + ", 2)", slab.bought(x, 2), price);
        due("bought(" + x + ", 3)", slab.bought(x, 3), came);
    }

    private static void dueNothing(IceSlab slab, int x, int came) {
        dueBought(slab, x, -9, -9, -9, came);
    }

    private static void dueDay(IceSlab slab, int income, int sold, int left, int profit) {
        due("day(0)", slab.day(0), income);
        due("day(1)", slab.day(1), sold);
        due("day(2)", slab.day(2), left);
        due("day(3)", slab.day(3), profit);
    }

    private static void dueSold(IceSlab slab, int s, int left, int gone, int paid) {
        due("sold(" + s + ", 0)", slab.sold(s, 0), left);
        due("sold(" + s + ", 1)", slab.sold(s, 1), gone);
        due("sold(" + s + ", 2)", slab.sold(s, 2), paid);
    }

    private static void buyer() {
        IceSlab slab = Checks.stallOf("h2;f7290;f1111");
        due("no sort, kind 9", slab.buyer(9, 2, 0, 0), -1);
        due("sort -1", slab.buyer(0, -1, 0, 0), -1);
        due("no hour, pays 99", slab.buyer(0, 0, 99, 2), -1);
        due("hour -1", slab.buyer(0, 0, 0, -1), -1);
        due("kind 3", slab.buyer(3, 0, 0, 0), -2);
        due("kind -1", slab.buyer(-1, 0, 0, 0), -2);
        due("pays 41", slab.buyer(0, 0, 41, 0), -2);
        due("pays -1", slab.buyer(0, 0, -1, 0), -2);
        due("many(2)", slab.many(2), 0);
        for (int x = 0; x < 10; x++) {
            due("buyer " + x, slab.buyer(x % 3, x % 2, x == 9 ? 40 : 0, 1), x);
        }
        due("an eleventh one", slab.buyer(0, 0, 0, 0), -4);
        due("an eleventh one of kind 3", slab.buyer(3, 0, 0, 0), -2);
        due("an eleventh one of no sort", slab.buyer(0, 2, 0, 0), -1);
        due("many(2)", slab.many(2), 10);
    }

    private static void ofBuyer() {
        IceSlab slab = Checks.stallOf("h2;f7290;f1111");
        slab.buyer(2, 1, 40, 0);
        slab.buyer(1, 0, 7, 1);
        int[] due = {2, 1, 40, 0, 1, 0, 7, 1};
        for (int i = 0; i < 8; i++) {
            due("ofBuyer(" + i / 4 + ", " + i % 4 + ")", slab.ofBuyer(i / 4, i % 4), due[i]);
        }
        due("ofBuyer(0, 4)", slab.ofBuyer(0, 4), -2);
        due("ofBuyer(0, -1)", slab.ofBuyer(0, -1), -2);
        due("ofBuyer(2, 4)", slab.ofBuyer(2, 4), -1);
        due("ofBuyer(-1, 0)", slab.ofBuyer(-1, 0), -1);
    }

    private static void worth() {
        IceSlab slab = Checks.stallOf("h3;f7290;f1172");
        slab.buyer(0, 0, 20, 0);
        slab.buyer(2, 1, 3, 2);
        due("worth(0, 0, 0)", slab.worth(0, 0, 0), 20);
        due("worth(0, 0, 2)", slab.worth(0, 0, 2), 20);
        due("worth(0, 1, 0)", slab.worth(0, 1, 0), 20 - 2 - 2);
        due("worth(0, 1, 2)", slab.worth(0, 1, 2), 20 - 6 - 2);
        due("worth(1, 1, 2)", slab.worth(1, 1, 2), 3 - 6);
        due("worth(1, 0, 0)", slab.worth(1, 0, 0), 1);
        due("no buyer", slab.worth(2, 0, 0), -1);
        due("buyer -1", slab.worth(-1, 0, 0), -1);
        due("no sort", slab.worth(0, 2, 0), -1);
        due("sort -1", slab.worth(0, -1, 0), -1);
        due("no hour", slab.worth(0, 0, 3), -1);
        due("hour -1", slab.worth(0, 0, -1), -1);
    }

    private static void worthBeside() {
        IceSlab slab = Checks.stallOf("h2;f7290;f1190");
        slab.buyer(0, 0, 20, 0);
        slab.buyer(1, 0, 40, 0);
        slab.buyer(1, 1, 40, 0);
        slab.write(1, 0, 10);
        due("not beside", slab.worth(0, 0, 0), 20);
        slab.beside(true);
        due("beside a dearer one", slab.worth(0, 0, 0), 21);
        due("the dearest one", slab.worth(0, 1, 0), 18);
        due("as dear in another hour", slab.worth(0, 0, 1), 20);
        due("the day sells the dear one", slab.sold(1, 0), 0);
        due("as if all lay there", slab.worth(0, 0, 0), 21);
        slab.write(0, 1, 10);
        due("beside sort 0", slab.worth(0, 1, 1), 19);
        slab.fish(1, 0);
        due("none of the dearer one", slab.worth(0, 0, 0), 20);
    }

    private static void plainDay() {
        IceSlab slab = Checks.stallOf("h3;f2390;f1270");
        due("no buyers: income", slab.day(0), 0);
        due("no buyers: profit", slab.day(3), -8);
        slab.buyer(0, 0, 9, 1);
        slab.buyer(0, 0, 8, 0);
        slab.buyer(0, 1, 11, 2);
        slab.buyer(0, 1, 40, 2);
        dueBought(slab, 0, 0, 1, 9, 1);
        dueNothing(slab, 1, 1);
        dueBought(slab, 2, 1, 2, 9, 1);
        dueNothing(slab, 3, 1);
        dueDay(slab, 18, 2, 1, 18 - 8);
        dueSold(slab, 0, 1, -9, 9);
        dueSold(slab, 1, 0, 2, 9);
        slab.soup(5);
        dueDay(slab, 18, 2, 1, 18 + 5 - 8);
        due("fish stay", slab.ofSort(0, 0), 2);
    }

    private static void refusedDays() {
        IceSlab slab = new IceSlab();
        due("new: day(4)", slab.day(4), -2);
        due("new: day(-1)", slab.day(-1), -2);
        due("new: day(3)", slab.day(3), -3);
        due("new: bought(0, 0)", slab.bought(0, 0), -1);
        due("new: sold(0, 0)", slab.sold(0, 0), -1);
        Checks.tellText(slab, "h3;f2390");
        slab.buyer(0, 0, 0, 0);
        due("day(4)", slab.day(4), -2);
        due("bought(1, 4)", slab.bought(1, 4), -1);
        due("bought(-1, 0)", slab.bought(-1, 0), -1);
        due("bought(0, 4)", slab.bought(0, 4), -2);
        due("bought(0, -1)", slab.bought(0, -1), -2);
        due("sold(1, 3)", slab.sold(1, 3), -1);
        due("sold(-1, 0)", slab.sold(-1, 0), -1);
        due("sold(0, 3)", slab.sold(0, 3), -2);
        due("sold(0, -1)", slab.sold(0, -1), -2);
    }

    private static void priceUpToWorth() {
        IceSlab slab = Checks.stallOf("h2;f9371");
        slab.buyer(0, 0, 10, 1);
        slab.write(0, 1, 7);
        dueBought(slab, 0, 0, 1, 7, 1);
        slab.write(0, 1, 8);
        dueNothing(slab, 0, 1);
        slab.write(0, 1, 0);
        dueBought(slab, 0, 0, 1, 0, 1);
    }

    private static void ownSortFirst() {
        IceSlab slab = Checks.stallOf("h1;f9190;f9190");
        slab.buyer(1, 1, 9, 0);
        slab.write(0, 0, 0);
        dueBought(slab, 0, 1, 0, 9, 1);
        slab.write(1, 0, 10);
        dueBought(slab, 0, 0, 0, 0, 1);
        slab.fish(0, 0);
        dueNothing(slab, 0, 1);
    }

    private static void choosingOthers() {
        IceSlab slab = Checks.stallOf("h1;f0190;f1190;f1190;f1190");
        slab.buyer(1, 0, 12, 0);
        slab.buyer(0, 0, 40, 0);
        dueBought(slab, 0, 1, 0, 9, 1);
        dueNothing(slab, 1, 1);
        slab.write(3, 0, 8);
        dueBought(slab, 0, 3, 0, 8, 1);
        slab.write(2, 0, 8);
        dueBought(slab, 0, 2, 0, 8, 1);
        slab.write(1, 0, 11);
        slab.write(2, 0, 11);
        slab.write(3, 0, 10);
        dueBought(slab, 0, 3, 0, 10, 1);
        slab.write(3, 0, 11);
        dueNothing(slab, 0, 1);
    }

    private static void waiting() {
        IceSlab slab = Checks.stallOf("h4;f1190;f9190");
        slab.buyer(2, 0, 40, 1);
        dueBought(slab, 0, 0, 1, 9, 1);
        slab.write(0, 2, 8);
        dueBought(slab, 0, 0, 2, 8, 2);
        slab.write(0, 3, 7);
        dueBought(slab, 0, 0, 3, 7, 3);
        slab.write(0, 2, 9);
        slab.write(0, 1, 9);
        dueBought(slab, 0, 0, 1, 9, 1);
        slab.write(0, 1, 30);
        slab.write(0, 2, 30);
        slab.write(0, 3, 30);
        dueBought(slab, 0, 0, 1, 30, 1);
    }

    private static void waitingChooses() {
        IceSlab slab = Checks.stallOf("h3;f0190;f1190");
        slab.buyer(2, 0, 10, 0);
        dueNothing(slab, 0, 3);
        slab.write(1, 2, 8);
        dueBought(slab, 0, 1, 2, 8, 3);
        slab.write(1, 0, 8);
        dueBought(slab, 0, 1, 0, 8, 1);
    }

    private static void waitingForGoneSort() {
        // His own sort is gone, yet cheaper in the next hour: he lets the other one lie.
        IceSlab slab = Checks.stallOf("h2;f0190;f1190");
        slab.buyer(2, 0, 40, 0);
        slab.write(0, 1, 8);
        dueBought(slab, 0, 1, 1, 9, 2);
        slab.write(1, 1, 39 - 9);
        dueBought(slab, 0, 1, 1, 30, 2);
    }

    private static void byNumbers() {
        // Who waited is no later than those who come: the numbers tell.
        IceSlab slab = Checks.stallOf("h2;f1190");
        slab.buyer(2, 0, 40, 0);
        slab.buyer(0, 0, 40, 1);
        slab.write(0, 1, 8);
        dueBought(slab, 0, 0, 1, 8, 2);
        dueNothing(slab, 1, 1);
        IceSlab other = Checks.stallOf("h2;f1190");
        other.buyer(0, 0, 40, 1);
        other.buyer(2, 0, 40, 0);
        other.write(0, 1, 8);
        dueBought(other, 0, 0, 1, 8, 1);
        dueNothing(other, 1, 2);
    }

    private static void besideWhileItLies() {
        IceSlab slab = Checks.stallOf("h2;f9190;f1190");
        slab.write(1, 0, 30);
        slab.buyer(0, 0, 8, 0);
        slab.buyer(0, 1, 40, 0);
        slab.buyer(0, 0, 8, 0);
        slab.beside(true);
        dueBought(slab, 0, 0, 0, 9, 1);
        dueBought(slab, 1, 1, 0, 30, 1);
        dueNothing(slab, 2, 1);
        slab.beside(false);
        dueNothing(slab, 0, 1);
    }

    private static void gone() {
        IceSlab slab = Checks.stallOf("h3;f2190;f0190;f1190");
        slab.buyer(0, 0, 9, 0);
        dueSold(slab, 0, 1, -9, 9);
        slab.buyer(0, 0, 9, 2);
        slab.write(0, 2, 4);
        dueSold(slab, 0, 0, 2, 13);
        dueSold(slab, 1, 0, -9, 0);
        dueSold(slab, 2, 1, -9, 0);
        due("day(2)", slab.day(2), 1);
        slab.buyer(0, 2, 9, 0);
        dueSold(slab, 2, 0, 0, 9);
    }

    private static void fullStall() {
        IceSlab slab = Checks.stallOf("h8;f3190;f3190;f3190;f1190");
        for (int x = 0; x < 10; x++) {
            slab.buyer(x % 3, 3, 40, 7);
        }
        slab.write(3, 7, 30);
        slab.beside(true);
        // The first one takes the dear one, then each that chooses the least of the other sorts.
        dueBought(slab, 0, 3, 7, 30, 1);
        int[] sorts = {3, 0, 0, -9, 0, 1, -9, 1, 1, -9};
        for (int x = 0; x < 10; x++) {
            due("bought(" + x + ", 0)", slab.bought(x, 0), sorts[x]);
        }
        dueDay(slab, 30 + 6 * 9, 7, 3, 30 + 6 * 9 - 10);
        dueSold(slab, 1, 0, 7, 27);
        dueSold(slab, 2, 3, -9, 0);
        dueSold(slab, 3, 0, 7, 30);
        due("many(3)", slab.many(3), 10);
    }
}
