/** Counts wrong answers, and sets up rows and stalls for the tests. */
final class Checks {
    private int wrong;
    private int made;

    void due(String call, long got, long want) {
        made++;
        if (got != want) {
            wrong++;
            System.out.println(call + " answered " + got + ", due is " + want);
        }
    }

    /** Prints how it went and ends the program with 1, if an answer was wrong. */
    void end(String name) {
        System.out.println(name + ": " + made + " answers, " + wrong + " wrong");
        if (wrong != 0) {
            System.exit(1);
        }
    }

    static void row(IceSlab slab, int k, int lane, int... numbers) {
        slab.sheet(k, lane, numbers.length);
        for (int i = 0; i < numbers.length; i++) {
            slab.put(k, i, numbers[i]);
        }
    }

    static void textRow(IceSlab slab, int k, int lane, String text) {
        row(slab, k, lane, text.chars().toArray());
    }

    /** Tells a text by SHEET 0 as ints. */
    static int tellText(IceSlab slab, String text) {
        textRow(slab, 0, 2, text);
        return slab.stall(0, 2, 0, text.length());
    }

    /** A new object with a stall that is told. */
    static IceSlab stallOf(String text) {
        IceSlab slab = new IceSlab();
        if (tellText(slab, text) < 1) {
            throw new IllegalStateException("no text: " + text);
        }
        return slab;
    }
}
