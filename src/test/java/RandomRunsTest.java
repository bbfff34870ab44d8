import java.lang.reflect.Method;
import java.util.Arrays;
import java.util.Map;
import java.util.TreeMap;

/** Runs of calls, drawn by a fixed row of numbers, compared with PlainSlab. */
public final class RandomRunsTest {
    private static final int RUNS = 1800, STEPS = 100;
    /** No object is asked more than 512 times: a step takes some 40 calls at most, the last look 150. */
    private static final int CALLS_OF_STEPS = 320, CALLS = 512;
    private static final String[] NAMES = {"stall", "ofSort", "fresh", "fish", "slate", "write", "copyOut", "soup",
        "beside", "buyer", "ofBuyer", "worth", "day", "bought", "sold", "best", "takeOff", "fetch", "carried", "cook",
        "mean", "howMany", "right", "rests", "mixed", "sheet", "lose", "put", "cell", "copy", "tell", "greet", "as",
        "trace", "fault", "many"};
    private static final Map<String, Method> METHODS = new TreeMap<>();
    private static final Map<String, int[]> ANSWERED = new TreeMap<>();

    private long drawn = 20261118;
    private IceSlab slab;
    private PlainSlab plain;
    private int wrong;
    private StringBuilder told;
    private int calls;
    /** Dear for the plain model, so not many of them. */
    private int fetchesLeft = 400;

    public static void main(String[] args) throws ReflectiveOperationException {
        for (Method m : IceSlab.class.getDeclaredMethods()) {
            METHODS.put(m.getName(), m);
        }
        RandomRunsTest test = new RandomRunsTest();
        for (int run = 0; run < RUNS && test.wrong == 0; run++) {
            test.run(run);
        }
        for (String name : NAMES) {
            int[] counts = ANSWERED.getOrDefault(name, new int[2]);
            if (counts[0] < 100) {
                System.out.println(name + " gave only " + counts[0] + " answers that are no refusals");
                test.wrong++;
            }
        }
        System.out.println("RandomRunsTest: " + RUNS + " runs of up to " + STEPS + " steps, " + test.wrong + " wrong");
        if (test.wrong != 0) {
            System.exit(1);
        }
    }

    /** From least to most, both of them too. */
    private int draw(int least, int most) {
        drawn = drawn * 6364136223846793005L + 1442695040888963407L;
        return least + (int) Math.floorMod(drawn >>> 33, (long) (most - least + 1));
    }

    private boolean oneOf(int n) {
        return draw(1, n) == 1;
    }

    /** Mostly from least to most, at times just beside or far away. */
    private int near(int least, int most) {
        if (oneOf(25)) {
            int[] off = {least - 1, most + 1, -1, Integer.MAX_VALUE, Integer.MIN_VALUE};
            return off[draw(0, 4)];
        }
        return draw(least, most);
    }

    private long call(String name, int... args) throws ReflectiveOperationException {
        calls++;
        Method m = METHODS.get(name);
        Object[] given = new Object[args.length];
        for (int i = 0; i < args.length; i++) {
            given[i] = m.getParameterTypes()[i] == boolean.class ? (Object) (args[i] != 0) : (Object) args[i];
        }
        long got = ((Number) m.invoke(slab, given)).longValue();
        long want = plain.call(name, args);
        boolean refused = want < 0 && want >= -14 || want == Long.MIN_VALUE;
        ANSWERED.computeIfAbsent(name, n -> new int[2])[refused ? 1 : 0]++;
        told.append(name).append(Arrays.toString(args)).append(" -> ").append(got).append('\n');
        if (got != want) {
            wrong++;
            System.out.println(told + "due is " + want);
        }
        return got;
    }

    private void run(int run) throws ReflectiveOperationException {
        slab = new IceSlab();
        plain = new PlainSlab();
        told = new StringBuilder("run " + run + "\n");
        calls = 0;
        if (!oneOf(10)) {
            tellText(draw(0, 3), false);
            for (int x = draw(0, 10); x > 0; x--) {
                call("buyer", draw(0, 2), near(0, 3), draw(0, 40), near(0, 7));
            }
        }
        for (int i = 0; i < STEPS && calls < CALLS_OF_STEPS && wrong == 0; i++) {
            step();
            if (oneOf(3)) {
                call("fault");
            }
        }
        lookAtAll();
        if (calls > CALLS) {
            wrong++;
            System.out.println("run " + run + " took " + calls + " calls");
        }
    }

    private void lookAtAll() throws ReflectiveOperationException {
        for (int what = 0; what < 5; what++) call("many", what);
        for (int s = 0; s < 4; s++) {
            for (int what = 0; what < 4; what++) call("ofSort", s, what);
            for (int what = 0; what < 3; what++) call("sold", s, what);
            for (int t = 0; t < 8; t++) call("slate", s, t);
        }
        for (int x = 0; x < 10; x++) {
            for (int what = 0; what < 4; what++) {
                call("ofBuyer", x, what);
                call("bought", x, what);
            }
        }
        for (int what = 0; what < 4; what++) call("day", what);
        call("trace");
    }

    private String text() {
        StringBuilder text = new StringBuilder("h").append(draw(1, 8));
        for (int sorts = draw(1, 4); sorts > 0; sorts--) {
            text.append(";f").append(draw(0, oneOf(3) ? 9 : 3)).append(draw(0, 9)).append(draw(oneOf(4) ? 0 : 6, 9)).append(draw(0, 3));
        }
        return text.toString();
    }

    private void tellText(int k, boolean spoilt) throws ReflectiveOperationException {
        String text = text();
        int lane = draw(0, 2);
        int before = draw(0, 3);
        call("sheet", k, lane, before + text.length() + draw(0, 2));
        for (int i = 0; i < text.length(); i++) {
            call("put", k, before + i, text.charAt(i));
        }
        if (spoilt && oneOf(2)) {
            call("put", k, near(0, text.length()), "hf;0123456789x".charAt(draw(0, 13)));
        }
        int n = spoilt ? near(text.length() - 7, text.length() + 1) : text.length();
        call("stall", k, lane, spoilt ? near(before, before) : before, n);
    }

    private void fill(int k, int lane, int n, int least, int most) throws ReflectiveOperationException {
        call("sheet", k, lane, n);
        for (int i = 0; i < n; i++) {
            call("put", k, i, near(least, most));
        }
    }

    private void step() throws ReflectiveOperationException {
        int kind = draw(0, 99);
        if (kind < 2) {
            tellText(near(0, 3), true);
        } else if (kind < 22) {
            changeStall();
        } else if (kind < 40) {
            askOfDay();
        } else if (kind < 52) {
            askForMost();
        } else if (kind < 56) {
            odds();
        } else if (kind < 60) {
            games();
        } else if (kind < 85) {
            sheets();
        } else {
            parts();
        }
    }

    private void changeStall() throws ReflectiveOperationException {
        switch (draw(0, 8)) {
            case 0: call("fish", near(0, 3), near(0, 9)); break;
            case 1: case 2: case 3: call("write", near(0, 3), near(0, 7), near(0, oneOf(3) ? 30 : 12)); break;
            case 4: {
                int k = draw(0, 3);
                int lane = draw(0, 2);
                fill(k, lane, draw(0, 9), 0, oneOf(2) ? 30 : 12);
                call("copyOut", near(0, 3), k, oneOf(20) ? near(0, 2) : lane, near(0, 2), near(0, 8));
                break;
            }
            case 5: call("soup", near(0, oneOf(2) ? 3 : 9)); break;
            case 6: call("beside", draw(0, 1)); break;
            default: call("buyer", near(0, 2), near(0, 3), near(0, 40), near(0, 7)); break;
        }
    }

    private void askOfDay() throws ReflectiveOperationException {
        switch (draw(0, 7)) {
            case 0: call("ofSort", near(0, 3), near(0, 3)); break;
            case 1: call("fresh", near(0, 3), near(0, 7)); break;
            case 2: call("slate", near(0, 3), near(0, 7)); break;
            case 3: call("ofBuyer", near(0, 9), near(0, 3)); break;
            case 4: call("worth", near(0, 9), near(0, 3), near(0, 7)); break;
            case 5: call("day", near(0, 3)); break;
            case 6: call("bought", near(0, 9), near(0, 3)); break;
            default: call("sold", near(0, 3), near(0, 2)); break;
        }
    }

    private void askForMost() throws ReflectiveOperationException {
        switch (draw(0, 5)) {
            case 0: call("best", near(0, 3), near(0, 7), near(0, 1)); break;
            case 1: call("takeOff", near(0, 2)); break;
            case 2:
                if (fetchesLeft > 0 && oneOf(8)) {
                    fetchesLeft--;
                    for (int k = -2; k <= 4; k++) call("fetch", k);
                }
                break;
            case 3: call("carried", near(0, 3)); break;
            case 4: call("cook", near(0, 3), near(0, 7), near(0, 30)); break;
            default: call("right", near(1, 99), near(1, 8), near(0, 1)); break;
        }
    }

    private void odds() throws ReflectiveOperationException {
        int k = draw(0, 3);
        int lane = draw(0, 2);
        int n = draw(0, 22);
        fill(k, lane, n, 0, oneOf(8) ? 0 : 99);
        for (int which = 0; which < 2; which++) {
            int from = near(0, 1);
            int taken = oneOf(3) ? near(0, 21) : n - 1;
            int taking = oneOf(20) ? near(0, 2) : lane;
            call("mean", k, taking, from, taken, near(0, 20), near(0, 99), near(0, 99), near(0, 99), which);
            call("howMany", k, taking, from, taken, near(0, 50), near(0, 99), near(0, 30));
        }
        call("mean", near(0, 3), near(0, 2), near(0, 9), near(0, 21), near(0, 20), 3, 9, 1, near(0, 1));
    }

    private void games() throws ReflectiveOperationException {
        int k = draw(0, 3);
        int lane = draw(0, 2);
        int far = oneOf(2) ? 99 : 3;
        call("sheet", k, lane, 9);
        for (int i = 0; i < 9; i++) {
            call("put", k, i, oneOf(60) ? near(-99, 99) : draw(-far, far));
        }
        int i = near(0, 1);
        int taken = oneOf(20) ? near(0, 2) : lane;
        call("rests", k, taken, i);
        for (int j = 0; j < 4; j++) {
            call("mixed", k, taken, i, oneOf(20) ? near(0, 1) : j / 2, oneOf(20) ? near(0, 1) : j % 2);
        }
        call("rests", near(0, 3), near(0, 2), near(0, 3));
    }

    private void sheets() throws ReflectiveOperationException {
        switch (draw(0, 9)) {
            case 0: call("sheet", near(0, 3), near(0, 2), near(0, oneOf(2) ? 60 : 8)); break;
            case 1: call("lose", near(0, 3)); break;
            case 2: case 3: call("put", near(0, 3), near(0, 12), oneOf(2) ? near(-70000, 70000) : draw(0, 9)); break;
            case 4: case 5: call("cell", near(0, 3), near(0, 12), near(0, 2)); break;
            case 6: {
                int k = draw(0, 3);
                call("copy", k, near(0, 4), k, near(0, 4), near(0, 6));
                break;
            }
            default: call("copy", near(0, 3), near(0, 4), near(0, 3), near(0, 4), near(0, 6)); break;
        }
    }

    private void parts() throws ReflectiveOperationException {
        switch (draw(0, 5)) {
            case 0: call("tell", near(0, 9)); break;
            case 1: call("greet", near(0, 9)); break;
            case 2: call("as", near(0, 9), near(0, 2)); break;
            case 3: call("trace"); break;
            case 4: call("fault"); break;
            default: call("many", near(0, 4)); break;
        }
    }
}
