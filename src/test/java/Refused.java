import java.util.Arrays;
import java.util.function.Supplier;

/**
 * Wrong inputs of one call, each on a new object: what it answers, what fault() tells behind it, and that nothing
 * else is changed.
 */
final class Refused {
    interface Call {
        long on(IceSlab slab, int... a);
    }

    private static final int NULL = 1, INDEX = 3;

    private final Checks checks;
    private final Supplier<IceSlab> state;
    private final String name;
    private final boolean namesFaults;
    private final Call call;

    private Refused(Checks checks, Supplier<IceSlab> state, String name, boolean namesFaults, Call call) {
        this.checks = checks;
        this.state = state;
        this.name = name;
        this.namesFaults = namesFaults;
        this.call = call;
    }

    /** Of a call that names FAULTS: refused, it came to none. */
    static Refused naming(Checks checks, String name, Call call) {
        return new Refused(checks, Refused::busy, name, true, call);
    }

    /** Of a call that names none: fault() stays as it was. */
    static Refused notNaming(Checks checks, String name, Call call) {
        return new Refused(checks, Refused::busy, name, false, call);
    }

    /** The same call in another state. */
    Refused in(Supplier<IceSlab> other) {
        return new Refused(checks, other, name, namesFaults, call);
    }

    /** It is refused, or answers NONE. */
    void answers(long due, int... a) {
        look(due, 0, a);
    }

    /** It comes to a FAULT and answers -10 less it. */
    void faults(int fault, int... a) {
        look(-10 - fault, fault, a);
    }

    /** It comes to a FAULT (0: is refused) and answers LOST. */
    void loses(int fault, int... a) {
        look(IceSlab.LOST, fault, a);
    }

    private void look(long due, int fault, int... a) {
        IceSlab slab = state.get();
        IceSlab untouched = state.get();
        int before = leaveFault(slab, fault == INDEX ? NULL : INDEX);
        String told = name + Arrays.toString(a);
        checks.due(told, call.on(slab, a), due);
        checks.due("fault() behind " + told, slab.fault(), namesFaults ? fault : before);
        checks.due("what is otherwise behind " + told, firstUnlike(seen(slab), seen(untouched)), -1);
    }

    /** SHEET 3 has nothing in all states. */
    private static int leaveFault(IceSlab slab, int fault) {
        if (fault == NULL) {
            slab.put(3, 0, 0);
        } else {
            slab.sheet(3, 0, 0);
            slab.put(3, 0, 0);
            slab.lose(3);
        }
        return slab.fault();
    }

    /** Two sorts, three hours, a buyer of each kind, rows of all lanes; all set otherwise than at first. */
    static IceSlab busy() {
        IceSlab slab = Checks.stallOf("h3;f2391;f4560");
        slab.buyer(0, 0, 12, 0);
        slab.buyer(1, 1, 14, 1);
        slab.buyer(2, 0, 15, 2);
        slab.write(0, 1, 30);
        slab.write(1, 2, 7);
        slab.soup(3);
        slab.beside(true);
        slab.greet(2);
        Checks.row(slab, 1, 0, 5, -6, 7, 8, 9);
        Checks.row(slab, 2, 1, 300, 1, 2, 3, 4, 5, 6, 7, 8);
        return slab;
    }

    /** A row of all that can be seen of an object, but for fault(). */
    static long[] seen(IceSlab slab) {
        long[] seen = new long[400];
        int n = 0;
        seen[n++] = slab.trace();
        for (int what = 0; what < 5; what++) {
            seen[n++] = slab.many(what);
        }
        for (int s = 0; s < 4; s++) {
            for (int what = 0; what < 4; what++) {
                seen[n++] = slab.ofSort(s, what);
            }
            for (int t = 0; t < 8; t++) {
                seen[n++] = slab.slate(s, t);
            }
        }
        for (int x = 0; x < 10; x++) {
            for (int what = 0; what < 4; what++) {
                seen[n++] = slab.ofBuyer(x, what);
            }
        }
        seen[n++] = slab.day(3);
        seen[n++] = slab.soup(0);
        for (int k = 0; k < 4; k++) {
            for (int lane = 0; lane < 3; lane++) {
                for (int i = 0; i < 10; i++) {
                    seen[n++] = slab.cell(k, i, lane);
                }
                seen[n++] = slab.fault();
            }
        }
        return Arrays.copyOf(seen, n);
    }

    private static int firstUnlike(long[] a, long[] b) {
        return Arrays.mismatch(a, b);
    }
}
