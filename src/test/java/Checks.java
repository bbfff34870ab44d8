/** Counts wrong answers, and sets up rows and stalls for the tests. */
final class Checks {
    private int wrong;
    private int made;

    void due(String call, long got, long want) {
        made++;
        if (got != want) {
            wrong++;
            System.out.println(call + " answered " + got + ", due is " + want);
        }
    }

    /** Prints how it went and ends the program with 1, if an answer was wrong. */
    void end(String name) {
        System.out.println(name + ": " + made + " answers, " + wrong + " wrong");
        if (wrong != 0) {
            System.exit(1);
        }
    }

    static void row(IceSlab slab, int k, int lane, int... numbers) {
        slab.sheet(k, lane, numbers.length);
        for (int i = 0; i < numbers.length; i++) {
            slab.put(k, i, numbers[i]);
        }
    }

    static void textRow(IceSlab slab, int k, int lane, String text) {
        row(slab, k, lane, text.chars().toArray());
    }

    /** Tells a text by SHEET 0 as ints. */
    static int tellText(IceSlab slab, String text) {
        textRow(slab, 0, 2, text);
        return slab.stall(0, 2, 0, text.length());
    }

    /** A new object with a stall that is told; of each buyer kind, SORT, what he PAYS, HOUR. */
    static IceSlab stallOf(String text, int... buyers) {
        IceSlab slab = new IceSlab();
        if (tellText(slab, text) < 1) {
            throw new IllegalStateException("no text: " + text);
        }
        for (int b = 0; b < buyers.length; b += 4) {
            if (slab.buyer(buyers[b], buyers[b + 1], buyers[b + 2], buyers[b + 3]) != b / 4) {
                throw new IllegalStateException("no buyer: " + b / 4);
            }
        }
        return slab;
    }

    /** A stall with a buyer of each kind, numbered as it is. */
    static IceSlab withOneOfEachKind() {
        return stallOf("h2;f1111;f1111", 0, 0, 12, 0, 1, 1, 14, 1, 2, 0, 15, 0);
    }

    /** Prices of a SORT from HOUR 0 on. */
    static void prices(IceSlab slab, int s, int... prices) {
        for (int t = 0; t < prices.length; t++) {
            slab.write(s, t, prices[t]);
        }
    }
}
