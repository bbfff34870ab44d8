import java.lang.reflect.Array;
import java.math.BigInteger;
import java.util.ArrayList;
import java.util.List;
import java.util.regex.Pattern;

/**
 * The document once more, told in another way and without any shortcut, for random runs to be compared with.
 * Refusals and faults are thrown here, faults mostly by the machine itself.
 */
final class PlainSlab {
    static final class Refused extends RuntimeException {
        private static final long serialVersionUID = 1;
        final int answer;

        Refused(int answer) {
            super(null, null, false, false);
            this.answer = answer;
        }
    }

    private static final Pattern TEXT = Pattern.compile("h[1-8](;f[0-9]{3}[0-3]){1,4}");

    private static class Buyer {
        int number, sort, pays, hour;

        int kind() { return 0; }
        int tell(PlainSlab slab) { return buyersTell(slab); }
        int greet(PlainSlab slab) { slab.leave(4); return number; }
        final int buyersTell(PlainSlab slab) { slab.leave(1); return pays; }
    }

    private static class Choosing extends Buyer {
        @Override int kind() { return 1; }
        @Override int tell(PlainSlab slab) { slab.leave(2); return super.tell(slab) + 100; }
    }

    private static final class Waiting extends Choosing {
        @Override int kind() { return 2; }
        @Override int tell(PlainSlab slab) { slab.leave(3); return super.tell(slab) + buyersTell(slab); }
        @Override int greet(PlainSlab slab) { slab.leave(5); return 60; }
    }

    private static final Class<?>[] KINDS = {Buyer.class, Choosing.class, Waiting.class};
    private static final Class<?>[] LANES = {byte[].class, short[].class, int[].class};

    /** What became of a day. */
    private static final class Gone {
        int[] left;
        int[] hourGone;
        int[] paid;
        int[][] bought;
        int income;
        int profit;
    }

    private final Object[] sheets = new Object[4];
    private int hours;
    private List<int[]> sorts = new ArrayList<>();
    private int[][] prices = new int[0][0];
    private List<Buyer> buyers = new ArrayList<>();
    private int soup;
    private boolean beside;
    private int trace;
    private int fault;

    private void leave(int number) {
        trace = 31 * trace + number;
    }

    private static void unknown(boolean is) {
        if (is) throw new Refused(-1);
    }

    private static void outside(boolean is) {
        if (is) throw new Refused(-2);
    }

    private static void outside(int v, int least, int most) {
        outside(v < least || v > most);
    }

    private void noStall() {
        if (sorts.isEmpty()) throw new Refused(-3);
    }

    private void noSort(int s) {
        unknown(s < 0 || s >= sorts.size());
    }

    private void noHour(int t) {
        unknown(t < 0 || t >= hours);
    }

    private Buyer buyerOf(int x) {
        unknown(x < 0 || x >= buyers.size());
        return buyers.get(x);
    }

    private static void noSheet(int k) {
        unknown(k < 0 || k > 3);
    }

    /** Takes cells as the machine would: casts, looks at the length, makes a row of n, copies. */
    private int[] cells(int k, int lane, int i, int n) {
        noSheet(k);
        outside(lane, 0, 2);
        Object row = LANES[lane].cast(sheets[k]);
        int length = Array.getLength(row);
        // A row of that many may be more than the machine has room for; no sheet is so long.
        if (n > 1000) throw new IndexOutOfBoundsException();
        int[] taken = new int[n];
        if (i < 0 || i > length) throw new IndexOutOfBoundsException();
        for (int j = 0; j < n; j++) {
            taken[j] = Array.getInt(row, i + j);
        }
        return taken;
    }

    /** Goes through a call that names faults. */
    private long guarded(String name, int[] a) {
        fault = 0;
        try {
            return answer(name, a);
        } catch (NullPointerException e) {
            fault = 1;
        } catch (ClassCastException e) {
            fault = 2;
        } catch (IndexOutOfBoundsException e) {
            fault = 3;
        } catch (NegativeArraySizeException e) {
            fault = 4;
        }
        throw new Refused(-10 - fault);
    }

    static final List<String> LONG = List.of("mean", "right", "mixed", "cell");
    private static final List<String> FAULTY =
        List.of("stall", "copyOut", "mean", "howMany", "rests", "mixed", "sheet", "put", "cell", "copy", "as");

    long call(String name, int[] a) {
        try {
            return FAULTY.contains(name) ? guarded(name, a) : answer(name, a);
        } catch (Refused refused) {
            return LONG.contains(name) ? Long.MIN_VALUE : refused.answer;
        }
    }

    private long answer(String name, int[] a) {
        switch (name) {
            case "stall": return stall(cells(a[0], a[1], a[2], a[3]));
            case "ofSort": noSort(a[0]); outside(a[1], 0, 3); return sorts.get(a[0])[a[1]];
            case "fresh": noSort(a[0]); noHour(a[1]); return fresh(a[0], a[1]);
            case "fish": noSort(a[0]); outside(a[1], 0, 9); return swap(sorts.get(a[0]), 0, a[1]);
            case "slate": noSort(a[0]); noHour(a[1]); return prices[a[0]][a[1]];
            case "write": noSort(a[0]); noHour(a[1]); outside(a[2], 0, 30); return swap(prices[a[0]], a[1], a[2]);
            case "copyOut": return copyOut(a);
            case "soup": { outside(a[0], 0, 9); noStall(); int was = soup; soup = a[0]; return was; }
            case "beside": { noStall(); boolean was = beside; beside = a[0] != 0; return was == beside ? 0 : 1; }
            case "buyer": return buyer(a[0], a[1], a[2], a[3]);
            case "ofBuyer": {
                Buyer b = buyerOf(a[0]);
                outside(a[1], 0, 3);
                return List.of(b.kind(), b.sort, b.pays, b.hour).get(a[1]);
            }
            case "worth": {
                Buyer b = buyerOf(a[0]);
                noSort(a[1]);
                noHour(a[2]);
                return worth(b, a[1], a[2], fishRow());
            }
            case "day": {
                outside(a[0], 0, 3);
                noStall();
                Gone g = day(-1, -1, 0);
                int left = sum(g.left);
                return List.of(g.income, sum(fishRow()) - left, left, g.profit).get(a[0]);
            }
            case "bought": buyerOf(a[0]); outside(a[1], 0, 3); return day(-1, -1, 0).bought[a[0]][a[1]];
            case "sold": {
                noSort(a[0]);
                outside(a[1], 0, 2);
                Gone g = day(-1, -1, 0);
                return List.of(g.left[a[0]], g.hourGone[a[0]], g.paid[a[0]]).get(a[1]);
            }
            case "best": noSort(a[0]); noHour(a[1]); outside(a[2], 0, 1); return best(a[0], a[1])[a[2]];
            case "takeOff": outside(a[0], 0, 2); noStall(); return takeOff()[a[0]];
            case "fetch": unknown(a[0] < -1 || a[0] > 3); noStall(); return fetch()[a[0] + 1];
            case "carried": noSort(a[0]); return carried(a[0]);
            case "cook": {
                noSort(a[0]);
                noHour(a[1]);
                outside(a[2], 0, 30);
                return day(a[0], a[1], a[2]).profit - day(-1, -1, 0).profit;
            }
            case "mean": return mean(a);
            case "howMany": return howMany(a);
            case "right": {
                noStall();
                outside(a[0], 1, 99);
                outside(a[1], 1, hours);
                outside(a[2], 0, 1);
                return share(a[0] * hours, a[1])[a[2]];
            }
            case "rests": return rests(game(cells(a[0], a[1], a[2], 8)));
            case "mixed": return mixed(game(cells(a[0], a[1], a[2], 8)), a[3], a[4]);
            case "sheet": return sheet(a[0], a[1], a[2]);
            case "lose": { noSheet(a[0]); boolean had = sheets[a[0]] != null; sheets[a[0]] = null; return had ? 1 : 0; }
            case "put": noSheet(a[0]); put(sheets[a[0]], a[1], a[2]); return 1;
            case "cell": return cells(a[0], a[2], a[1], 1)[0];
            case "copy": return copy(a[0], a[1], a[2], a[3], a[4]);
            case "tell": return buyerOf(a[0]).tell(this);
            case "greet": return buyerOf(a[0]).greet(this);
            case "as": { Buyer b = buyerOf(a[0]); outside(a[1], 0, 2); KINDS[a[1]].cast(b); return 1; }
            case "trace": return trace;
            case "fault": return fault;
            case "many": {
                outside(a[0], 0, 4);
                return List.of(hours, sorts.size(), buyers.size(), sum(fishRow()), beside ? 1 : 0).get(a[0]);
            }
            default: throw new IllegalStateException(name);
        }
    }

    private static int swap(int[] row, int i, int v) {
        int was = row[i];
        row[i] = v;
        return was;
    }

    private static int sum(int[] row) {
        int all = 0;
        for (int v : row) all += v;
        return all;
    }

    private int[] fishRow() {
        return sorts.stream().mapToInt(sort -> sort[0]).toArray();
    }

    /** The first fault: the longest beginning that can be filled up to a text, by trying to. */
    private int stall(int[] codes) {
        StringBuilder text = new StringBuilder();
        for (int code : codes) text.append(code > 0 && code < 128 ? (char) code : '?');
        for (int n = 0; n <= text.length(); n++) {
            if (!canBeFilled(text.substring(0, n))) return -100 - (n - 1);
        }
        if (!TEXT.matcher(text).matches()) return -100 - text.length();
        hours = text.charAt(1) - '0';
        sorts = new ArrayList<>();
        for (int at = 4; at < text.length(); at += 6) {
            int[] sort = new int[4];
            for (int j = 0; j < 4; j++) sort[j] = text.charAt(at + j) - '0';
            sorts.add(sort);
        }
        prices = new int[sorts.size()][hours];
        for (int[] row : prices) java.util.Arrays.fill(row, 9);
        buyers = new ArrayList<>();
        soup = 0;
        beside = false;
        return sorts.size();
    }

    private static boolean canBeFilled(String start) {
        String whole = "h1;f0000;f0000;f0000;f0000";
        if (start.length() > whole.length()) return false;
        return TEXT.matcher(start + whole.substring(start.length())).matches();
    }

    private int fresh(int s, int t) {
        return Math.max(0, sorts.get(s)[2] - t * sorts.get(s)[3]);
    }

    private int copyOut(int[] a) {
        noSort(a[0]);
        int[] cells = cells(a[1], a[2], a[3], a[4]);
        outside(cells.length, 1, hours);
        for (int price : cells) outside(price, 0, 30);
        for (int t = 0; t < cells.length; t++) prices[a[0]][t] = cells[t];
        return cells.length;
    }

    private int buyer(int kind, int s, int pays, int t) {
        noSort(s);
        noHour(t);
        outside(kind, 0, 2);
        outside(pays, 0, 40);
        if (buyers.size() == 10) throw new Refused(-4);
        Buyer b = kind == 0 ? new Buyer() : kind == 1 ? new Choosing() : new Waiting();
        b.number = buyers.size();
        b.sort = s;
        b.pays = pays;
        b.hour = t;
        buyers.add(b);
        return b.number;
    }

    private int worth(Buyer b, int s, int t, int[] lying) {
        int worth = b.pays - (9 - fresh(s, t)) - (s == b.sort ? 0 : 2);
        boolean dearer = false;
        for (int r = 0; r < lying.length; r++) dearer |= lying[r] > 0 && prices[r][t] > prices[s][t];
        return beside && dearer ? worth + 1 : worth;
    }

    private boolean wouldBuy(Buyer b, int s, int t, int[] lying) {
        return lying[s] > 0 && prices[s][t] <= worth(b, s, t, lying);
    }

    private int choice(Buyer b, int t, int[] lying) {
        boolean waits = b instanceof Waiting && t < hours - 1 && prices[b.sort][t + 1] < prices[b.sort][t];
        if (waits) return -9;
        if (wouldBuy(b, b.sort, t, lying)) return b.sort;
        int choice = -9;
        if (b instanceof Choosing) {
            for (int s = sorts.size() - 1; s >= 0; s--) {
                if (s == b.sort || !wouldBuy(b, s, t, lying)) continue;
                int gain = worth(b, s, t, lying) - prices[s][t];
                if (choice < 0 || gain >= worth(b, choice, t, lying) - prices[choice][t]) choice = s;
            }
        }
        return choice;
    }

    private Gone day(int cookSort, int cookHour, int cookPrice) {
        Gone g = new Gone();
        g.left = fishRow();
        g.hourGone = new int[g.left.length];
        java.util.Arrays.fill(g.hourGone, -9);
        g.paid = new int[g.left.length];
        g.bought = new int[buyers.size()][];
        for (int x = 0; x < buyers.size(); x++) g.bought[x] = new int[] {-9, -9, -9, 0};
        List<Buyer> waiting = new ArrayList<>();
        for (int t = 0; t < hours; t++) {
            if (t == cookHour) {
                g.income += cookPrice * g.left[cookSort];
                g.left[cookSort] = 0;
            }
            List<Buyer> coming = new ArrayList<>();
            for (Buyer b : buyers) if (b.hour == t || waiting.contains(b)) coming.add(b);
            waiting.clear();
            for (Buyer b : coming) {
                int[] bought = g.bought[b.number];
                bought[3]++;
                int s = choice(b, t, g.left);
                if (s < 0) {
                    if (b instanceof Waiting) waiting.add(b);
                    continue;
                }
                bought[0] = s;
                bought[1] = t;
                bought[2] = prices[s][t];
                g.income += bought[2];
                g.paid[s] += bought[2];
                if (--g.left[s] == 0) g.hourGone[s] = t;
            }
        }
        g.profit = g.income + soup * sum(g.left);
        for (int[] sort : sorts) g.profit -= sort[0] * sort[1];
        return g;
    }

    private int profit() {
        return day(-1, -1, 0).profit;
    }

    private int[] best(int s, int t) {
        int was = prices[s][t];
        int[] best = null;
        for (int price = 30; price >= 0; price--) {
            prices[s][t] = price;
            if (best == null || profit() >= best[1]) best = new int[] {price, profit()};
        }
        prices[s][t] = was;
        return best;
    }

    private int[] takeOff() {
        int[][] was = prices;
        int[] best = {profit(), -9, 0};
        for (int from = hours - 1; from >= 0; from--) {
            for (int x = 30; x >= 1; x--) {
                prices = new int[was.length][];
                for (int s = 0; s < was.length; s++) {
                    prices[s] = was[s].clone();
                    for (int t = from; t < hours; t++) prices[s][t] = Math.max(0, was[s][t] - x);
                }
                int profit = profit();
                if (profit > best[0] || profit == best[0] && best[1] != -9) best = new int[] {profit, from, x};
            }
        }
        prices = was;
        return best;
    }

    private int[] fetch() {
        int[] was = fishRow();
        int n = was.length;
        int[] best = null;
        for (int row = 0; row < Math.pow(10, n); row++) {
            int rest = row;
            for (int s = n - 1; s >= 0; s--) {
                sorts.get(s)[0] = rest % 10;
                rest /= 10;
            }
            int profit = profit();
            if (best == null || profit > best[0]) {
                best = new int[] {profit, -9, -9, -9, -9};
                System.arraycopy(fishRow(), 0, best, 1, n);
            }
        }
        for (int s = 0; s < n; s++) sorts.get(s)[0] = was[s];
        return best;
    }

    private int carried(int s) {
        int with = profit();
        int was = swap(sorts.get(s), 0, 0);
        int without = profit();
        sorts.get(s)[0] = was;
        return with - without;
    }

    private static long[] share(long upper, long lower) {
        BigInteger u = BigInteger.valueOf(upper);
        BigInteger l = BigInteger.valueOf(lower);
        BigInteger g = u.gcd(l);
        if (l.signum() < 0) g = g.negate();
        return new long[] {u.divide(g).longValueExact(), l.divide(g).longValueExact()};
    }

    private static int[] weights(int[] cells) {
        outside(cells.length, 1, 20);
        for (int w : cells) outside(w, 0, 99);
        outside(sum(cells) == 0);
        return cells;
    }

    private static long meanTimesSum(int[] weights, int q, int c, int p, int o) {
        long all = 0;
        for (int wanted = 0; wanted < weights.length; wanted++) {
            long had = 0;
            for (int one = 0; one < q; one++) had += one < wanted ? p : o;
            all += weights[wanted] * (had - (long) q * c);
        }
        return all;
    }

    private long mean(int[] a) {
        int[] weights = weights(cells(a[0], a[1], a[2], a[3]));
        outside(a[4], 0, 20);
        for (int j = 5; j < 8; j++) outside(a[j], 0, 99);
        outside(a[8], 0, 1);
        return share(meanTimesSum(weights, a[4], a[5], a[6], a[7]), sum(weights))[a[8]];
    }

    private int howMany(int[] a) {
        int[] weights = weights(cells(a[0], a[1], a[2], a[3]));
        for (int j = 4; j < 7; j++) outside(a[j], 0, 99);
        int choice = 20;
        for (int q = 19; q >= 0; q--) {
            if (meanTimesSum(weights, q, a[4], a[5], a[6]) >= meanTimesSum(weights, choice, a[4], a[5], a[6])) choice = q;
        }
        return choice;
    }

    /** By what the seller does, what the buyer does, who. */
    private static int[][][] game(int[] cells) {
        int[][][] game = new int[2][2][2];
        for (int j = 0; j < 8; j++) {
            outside(cells[j], -99, 99);
            game[j / 4][j / 2 % 2][j % 2] = cells[j];
        }
        return game;
    }

    private static int rests(int[][][] game) {
        int bits = 0;
        for (int keeps = 0; keeps < 2; keeps++) {
            for (int waits = 0; waits < 2; waits++) {
                boolean sellerHasMore = game[1 - keeps][waits][0] > game[keeps][waits][0];
                boolean buyerHasMore = game[keeps][1 - waits][1] > game[keeps][waits][1];
                if (!sellerHasMore && !buyerHasMore) bits += keeps == 0 ? 1 + waits : 4 + 4 * waits;
            }
        }
        return bits;
    }

    /** The share of the way at which a line from one number to another one is 0. */
    private static long[] zeroBetween(long atNone, long atAll) {
        outside(!(atNone < 0 && atAll > 0 || atNone > 0 && atAll < 0));
        return share(-atNone, atAll - atNone);
    }

    private static long mixed(int[][][] game, int what, int which) {
        outside(what, 0, 1);
        outside(which, 0, 1);
        long[] takesOff = zeroBetween(game[1][0][1] - game[1][1][1], game[0][0][1] - game[0][1][1]);
        long[] buys = zeroBetween(game[0][1][0] - game[1][1][0], game[0][0][0] - game[1][0][0]);
        return (what == 0 ? takesOff : buys)[which];
    }

    private int sheet(int k, int lane, int n) {
        noSheet(k);
        outside(lane, 0, 2);
        outside(n > 60);
        sheets[k] = Array.newInstance(LANES[lane].getComponentType(), n);
        return 1;
    }

    private static void put(Object row, int i, int v) {
        if (row instanceof byte[]) {
            ((byte[]) row)[i] = (byte) v;
        } else if (row instanceof short[]) {
            ((short[]) row)[i] = (short) v;
        } else {
            ((int[]) row)[i] = v;
        }
    }

    private int copy(int k, int i, int other, int j, int n) {
        noSheet(k);
        noSheet(other);
        Object from = sheets[k];
        Object to = sheets[other];
        Array.getLength(from);
        to.getClass().cast(from);
        System.arraycopy(from, i, to, j, n);
        return n;
    }
}
