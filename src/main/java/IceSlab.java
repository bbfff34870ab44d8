/** A stall of fish upon ice: its text, its buyers, its day, what brings the most. ../shared/DOC.md tells the promises. */
public final class IceSlab {
    public static final int UNKNOWN = -1, OUTSIDE = -2, STATE = -3, FULL = -4, NONE = -9;
    public static final long LOST = Long.MIN_VALUE;

    private static final int NULL = 1, CAST = 2, INDEX = 3, SIZE = 4;
    private static final int BUYER = 0, CHOOSING = 1, WAITING = 2;
    private static final int MOST_SORTS = 4, MOST_HOURS = 8, MOST_BUYERS = 10;
    private static final int MOST_FISH = 9, FRESHEST = 9, FIRST_PRICE = 9, DEAREST = 30, MOST_PAID = 40, MOST_SOUP = 9;
    private static final int MOST_WEIGHTS = 20, MOST_FETCHED = 20, MOST_MONEY = 99, MOST_SOLD = 99;
    /** Below each PROFIT: no stall costs more than 4 times 9 FISH at 9 each. */
    private static final int BELOW_ALL_PROFITS = -1000;

    private final Day today;
    private final Search search;
    private final Sheets sheets;
    private final Odds odds;
    private final Game game;
    private int trace;
    private int fault;

    public IceSlab() {
        today = new Day();
        search = new Search();
        sheets = new Sheets();
        odds = new Odds();
        game = new Game();
    }

    // ---- 1 the stall

    public int stall(int sheet, int lane, int i, int n) {
        int refused = lookAtCells(sheet, lane, i, n);
        if (refused != 0) {
            return refused;
        }
        int wrong = Text.firstFault(sheets.cells[sheet], i, n);
        if (wrong != NONE) {
            return -100 - wrong;
        }
        today.stall.readText(sheets.cells[sheet], i, n);
        today.buyers.count = 0;
        return today.stall.sorts;
    }

    public int ofSort(int s, int what) {
        Stall stall = today.stall;
        if (!stall.hasSort(s)) {
            return UNKNOWN;
        }
        switch (what) {
            case 0: return stall.fish[s];
            case 1: return stall.cost[s];
            case 2: return stall.freshness[s];
            case 3: return stall.fades[s];
            default: return OUTSIDE;
        }
    }

    public int fresh(int s, int t) {
        if (!today.stall.hasPlace(s, t)) {
            return UNKNOWN;
        }
        return today.stall.freshAt(s, t);
    }

    public int fish(int s, int v) {
        if (!today.stall.hasSort(s)) {
            return UNKNOWN;
        }
        if (!isWithin(v, 0, MOST_FISH)) {
            return OUTSIDE;
        }
        int was = today.stall.fish[s];
        today.stall.fish[s] = v;
        return was;
    }

    public int slate(int s, int t) {
        if (!today.stall.hasPlace(s, t)) {
            return UNKNOWN;
        }
        return today.stall.prices[s][t];
    }

    public int write(int s, int t, int v) {
        if (!today.stall.hasPlace(s, t)) {
            return UNKNOWN;
        }
        if (!isWithin(v, 0, DEAREST)) {
            return OUTSIDE;
        }
        int was = today.stall.prices[s][t];
        today.stall.prices[s][t] = v;
        return was;
    }

    public int copyOut(int s, int sheet, int lane, int i, int n) {
        fault = 0;
        if (!today.stall.hasSort(s)) {
            return UNKNOWN;
        }
        int refused = lookAtCells(sheet, lane, i, n);
        if (refused != 0) {
            return refused;
        }
        if (!isWithin(n, 1, today.stall.hours) || !areAllWithin(sheets.cells[sheet], i, n, 0, DEAREST)) {
            return OUTSIDE;
        }
        System.arraycopy(sheets.cells[sheet], i, today.stall.prices[s], 0, n);
        return n;
    }

    public int soup(int v) {
        if (!isWithin(v, 0, MOST_SOUP)) {
            return OUTSIDE;
        }
        if (!today.stall.isTold()) {
            return STATE;
        }
        int was = today.stall.soup;
        today.stall.soup = v;
        return was;
    }

    public int beside(boolean is) {
        if (!today.stall.isTold()) {
            return STATE;
        }
        boolean was = today.stall.beside;
        today.stall.beside = is;
        return was == is ? 0 : 1;
    }

    // ---- 2 buyers, the day

    public int buyer(int kind, int s, int pays, int t) {
        if (!today.stall.hasPlace(s, t)) {
            return UNKNOWN;
        }
        if (!isWithin(kind, BUYER, WAITING) || !isWithin(pays, 0, MOST_PAID)) {
            return OUTSIDE;
        }
        if (today.buyers.count >= MOST_BUYERS) {
            return FULL;
        }
        return today.buyers.add(kind, s, pays, t);
    }

    public int ofBuyer(int x, int what) {
        Buyers buyers = today.buyers;
        if (!buyers.has(x)) {
            return UNKNOWN;
        }
        switch (what) {
            case 0: return buyers.kind[x];
            case 1: return buyers.sort[x];
            case 2: return buyers.pays[x];
            case 3: return buyers.hour[x];
            default: return OUTSIDE;
        }
    }

    public int worth(int x, int s, int t) {
        if (!today.buyers.has(x) || !today.stall.hasPlace(s, t)) {
            return UNKNOWN;
        }
        today.open();
        return today.worthTo(x, s, t);
    }

    public int day(int what) {
        if (!isWithin(what, 0, 3)) {
            return OUTSIDE;
        }
        if (!today.stall.isTold()) {
            return STATE;
        }
        today.goThrough();
        switch (what) {
            case 0: return today.income;
            case 1: return today.stall.allFish() - today.allLeft();
            case 2: return today.allLeft();
            default: return today.profit();
        }
    }

    public int bought(int x, int what) {
        if (!today.buyers.has(x)) {
            return UNKNOWN;
        }
        if (!isWithin(what, 0, 3)) {
            return OUTSIDE;
        }
        today.goThrough();
        switch (what) {
            case 0: return today.tookSort[x];
            case 1: return today.tookHour[x];
            case 2: return today.tookFor[x];
            default: return today.came[x];
        }
    }

    public int sold(int s, int what) {
        if (!today.stall.hasSort(s)) {
            return UNKNOWN;
        }
        if (!isWithin(what, 0, 2)) {
            return OUTSIDE;
        }
        today.goThrough();
        switch (what) {
            case 0: return today.left[s];
            case 1: return today.gone[s];
            default: return today.paid[s];
        }
    }

    // ---- 3 what brings the most

    public int best(int s, int t, int what) {
        if (!today.stall.hasPlace(s, t)) {
            return UNKNOWN;
        }
        if (!isWithin(what, 0, 1)) {
            return OUTSIDE;
        }
        search.findPrice(today, s, t);
        return what == 0 ? search.amount : search.profit;
    }

    public int takeOff(int what) {
        if (!isWithin(what, 0, 2)) {
            return OUTSIDE;
        }
        if (!today.stall.isTold()) {
            return STATE;
        }
        search.findTakingOff(today);
        switch (what) {
            case 0: return search.profit;
            case 1: return search.hour;
            default: return search.amount;
        }
    }

    public int fetch(int k) {
        if (!isWithin(k, -1, MOST_SORTS - 1)) {
            return UNKNOWN;
        }
        if (!today.stall.isTold()) {
            return STATE;
        }
        if (k >= 0 && !today.stall.hasSort(k)) {
            return NONE;
        }
        search.findFetched(today);
        return k < 0 ? search.profit : search.row[k];
    }

    public int carried(int s) {
        if (!today.stall.hasSort(s)) {
            return UNKNOWN;
        }
        today.goThrough();
        return today.profit() - search.profitWithout(today, s);
    }

    public int cook(int s, int t, int price) {
        if (!today.stall.hasPlace(s, t)) {
            return UNKNOWN;
        }
        if (!isWithin(price, 0, DEAREST)) {
            return OUTSIDE;
        }
        today.goThrough();
        return search.profitWithCook(today, s, t, price) - today.profit();
    }

    // ---- 4 odds

    public long mean(int sheet, int lane, int i, int n, int q, int c, int p, int o, int which) {
        if (lookAtCells(sheet, lane, i, n) != 0 || !odds.take(sheets.cells[sheet], i, n)) {
            return LOST;
        }
        if (!isWithin(q, 0, MOST_FETCHED) || !areMoney(c, p, o) || !isWithin(which, 0, 1)) {
            return LOST;
        }
        return partOfShare(odds.weighed(q, c, p, o), odds.sum, which);
    }

    public int howMany(int sheet, int lane, int i, int n, int c, int p, int o) {
        int refused = lookAtCells(sheet, lane, i, n);
        if (refused != 0) {
            return refused;
        }
        if (!odds.take(sheets.cells[sheet], i, n) || !areMoney(c, p, o)) {
            return OUTSIDE;
        }
        return odds.mostWorthwhile(c, p, o);
    }

    public long right(int sold, int t, int which) {
        int hours = today.stall.hours;
        if (!isWithin(sold, 1, MOST_SOLD) || !isWithin(t, 1, hours) || !isWithin(which, 0, 1)) {
            return LOST;
        }
        return partOfShare((long) sold * hours, t, which);
    }

    // ---- 5 games

    public int rests(int sheet, int lane, int i) {
        int refused = lookAtCells(sheet, lane, i, Game.NUMBERS);
        if (refused != 0) {
            return refused;
        }
        if (!game.take(sheets.cells[sheet], i)) {
            return OUTSIDE;
        }
        return game.restingBits();
    }

    public long mixed(int sheet, int lane, int i, int what, int which) {
        if (lookAtCells(sheet, lane, i, Game.NUMBERS) != 0 || !game.take(sheets.cells[sheet], i)) {
            return LOST;
        }
        if (!isWithin(what, 0, 1) || !isWithin(which, 0, 1) || !game.hasMixed()) {
            return LOST;
        }
        if (what == 0) {
            return partOfShare(game.takingOffUpper(), game.takingOffLower(), which);
        }
        return partOfShare(game.buyingUpper(), game.buyingLower(), which);
    }

    // ---- 6 sheets, parts

    public int sheet(int k, int lane, int n) {
        fault = 0;
        if (!sheets.isThere(k)) {
            return UNKNOWN;
        }
        if (!sheets.isLane(lane) || n > Sheets.LONGEST) {
            return OUTSIDE;
        }
        if (n < 0) {
            return faultOf(SIZE);
        }
        sheets.give(k, lane, n);
        return 1;
    }

    public int lose(int k) {
        if (!sheets.isThere(k)) {
            return UNKNOWN;
        }
        boolean had = sheets.hasRow(k);
        sheets.length[k] = Sheets.NOTHING;
        return had ? 1 : 0;
    }

    public int put(int k, int i, int v) {
        fault = 0;
        if (!sheets.isThere(k)) {
            return UNKNOWN;
        }
        if (!sheets.hasRow(k)) {
            return faultOf(NULL);
        }
        if (!sheets.reaches(k, i, 1)) {
            return faultOf(INDEX);
        }
        sheets.cells[k][i] = Sheets.cut(v, sheets.lane[k]);
        return 1;
    }

    public long cell(int k, int i, int lane) {
        if (lookAtCells(k, lane, i, 1) != 0) {
            return LOST;
        }
        return sheets.cells[k][i];
    }

    public int copy(int k, int i, int other, int j, int n) {
        fault = 0;
        if (!sheets.isThere(k) || !sheets.isThere(other)) {
            return UNKNOWN;
        }
        if (!sheets.hasRow(k) || !sheets.hasRow(other)) {
            return faultOf(NULL);
        }
        if (sheets.lane[k] != sheets.lane[other]) {
            return faultOf(CAST);
        }
        if (!sheets.reaches(k, i, n) || !sheets.reaches(other, j, n)) {
            return faultOf(INDEX);
        }
        System.arraycopy(sheets.cells[k], i, sheets.cells[other], j, n);
        return n;
    }

    public int tell(int x) {
        if (!today.buyers.has(x)) {
            return UNKNOWN;
        }
        switch (today.buyers.kind[x]) {
            case WAITING: return tellAsWaiting(x);
            case CHOOSING: return tellAsChoosing(x);
            default: return tellAsBuyer(x);
        }
    }

    public int greet(int x) {
        if (!today.buyers.has(x)) {
            return UNKNOWN;
        }
        if (today.buyers.kind[x] == WAITING) {
            leaveTrace(5);
            return 60;
        }
        leaveTrace(4);
        return x;
    }

    public int as(int x, int kind) {
        fault = 0;
        if (!today.buyers.has(x)) {
            return UNKNOWN;
        }
        if (!isWithin(kind, BUYER, WAITING)) {
            return OUTSIDE;
        }
        // Each kind is one of the kinds below it, too.
        return today.buyers.kind[x] >= kind ? 1 : faultOf(CAST);
    }

    public int trace() {
        return trace;
    }

    public int fault() {
        return fault;
    }

    public int many(int what) {
        switch (what) {
            case 0: return today.stall.hours;
            case 1: return today.stall.sorts;
            case 2: return today.buyers.count;
            case 3: return today.stall.allFish();
            case 4: return today.stall.beside ? 1 : 0;
            default: return OUTSIDE;
        }
    }

    private int tellAsBuyer(int x) {
        leaveTrace(1);
        return today.buyers.pays[x];
    }

    private int tellAsChoosing(int x) {
        leaveTrace(2);
        return tellAsBuyer(x) + 100;
    }

    private int tellAsWaiting(int x) {
        leaveTrace(3);
        int asChoosing = tellAsChoosing(x);
        return asChoosing + tellAsBuyer(x);
    }

    private void leaveTrace(int number) {
        trace = 31 * trace + number;
    }

    private int faultOf(int kind) {
        fault = kind;
        return -10 - kind;
    }

    /** 0, if n cells of a SHEET from i on may be taken as a row of a LANE; else what the call answers. */
    private int lookAtCells(int k, int lane, int i, int n) {
        fault = 0;
        if (!sheets.isThere(k)) {
            return UNKNOWN;
        }
        if (!sheets.isLane(lane)) {
            return OUTSIDE;
        }
        if (!sheets.hasRow(k)) {
            return faultOf(NULL);
        }
        if (sheets.lane[k] != lane) {
            return faultOf(CAST);
        }
        if (n < 0) {
            return faultOf(SIZE);
        }
        return sheets.reaches(k, i, n) ? 0 : faultOf(INDEX);
    }

    private static boolean isWithin(int v, int least, int most) {
        return v >= least && v <= most;
    }

    private static boolean areMoney(int c, int p, int o) {
        return isWithin(c, 0, MOST_MONEY) && isWithin(p, 0, MOST_MONEY) && isWithin(o, 0, MOST_MONEY);
    }

    private static boolean areAllWithin(int[] cells, int i, int n, int least, int most) {
        for (int j = 0; j < n; j++) {
            if (!isWithin(cells[i + j], least, most)) {
                return false;
            }
        }
        return true;
    }

    /** The upper (which 0) or lower number of a share in least terms. */
    private static long partOfShare(long upper, long lower, int which) {
        long divisor = commonDivisor(Math.abs(upper), Math.abs(lower));
        if (divisor == 0) {
            return LOST;
        }
        long part = (which == 0 ? upper : lower) / divisor;
        return lower < 0 ? -part : part;
    }

    private static long commonDivisor(long a, long b) {
        // Euclid's steps for longs are fewer than 100; the bound only shows that the loop ends.
        for (int step = 0; step < 100 && b != 0; step++) {
            long rest = a % b;
            a = b;
            b = rest;
        }
        return a;
    }

    /** The codes of a STALL's TEXT: h and a digit, then SORTS of six codes each. */
    private static final class Text {
        static final int HEAD = 2, OF_SORT = 6;

        /** The place of the FIRST FAULT; NONE, if the codes are a TEXT. */
        static int firstFault(int[] codes, int i, int n) {
            for (int place = 0; place < n; place++) {
                if (!goesOn(codes[i + place], place)) {
                    return place;
                }
            }
            boolean whole = n > HEAD && (n - HEAD) % OF_SORT == 0;
            return whole ? NONE : n;
        }

        static boolean goesOn(int code, int place) {
            if (place == 0) {
                return code == 'h';
            }
            if (place == 1) {
                return isWithin(code, '1', '8');
            }
            if (place >= HEAD + MOST_SORTS * OF_SORT) {
                return false;
            }
            switch ((place - HEAD) % OF_SORT) {
                case 0: return code == ';';
                case 1: return code == 'f';
                case 5: return isWithin(code, '0', '3');
                default: return isWithin(code, '0', '9');
            }
        }
    }

    /** What a TEXT tells, and what is set beside it: THE SLATE, SOUP, whether BESIDE is so. */
    private static final class Stall {
        final int[] fish = new int[MOST_SORTS];
        final int[] cost = new int[MOST_SORTS];
        final int[] freshness = new int[MOST_SORTS];
        final int[] fades = new int[MOST_SORTS];
        final int[][] prices = new int[MOST_SORTS][MOST_HOURS];
        int hours;
        int sorts;
        int soup;
        boolean beside;

        void readText(int[] codes, int i, int n) {
            hours = codes[i + 1] - '0';
            sorts = (n - Text.HEAD) / Text.OF_SORT;
            for (int s = 0; s < sorts; s++) {
                int at = i + Text.HEAD + s * Text.OF_SORT;
                fish[s] = codes[at + 2] - '0';
                cost[s] = codes[at + 3] - '0';
                freshness[s] = codes[at + 4] - '0';
                fades[s] = codes[at + 5] - '0';
                for (int t = 0; t < hours; t++) {
                    prices[s][t] = FIRST_PRICE;
                }
            }
            soup = 0;
            beside = false;
        }

        void become(Stall other) {
            hours = other.hours;
            sorts = other.sorts;
            soup = other.soup;
            beside = other.beside;
            System.arraycopy(other.fish, 0, fish, 0, MOST_SORTS);
            System.arraycopy(other.cost, 0, cost, 0, MOST_SORTS);
            System.arraycopy(other.freshness, 0, freshness, 0, MOST_SORTS);
            System.arraycopy(other.fades, 0, fades, 0, MOST_SORTS);
            for (int s = 0; s < MOST_SORTS; s++) {
                System.arraycopy(other.prices[s], 0, prices[s], 0, MOST_HOURS);
            }
        }

        boolean isTold() {
            return sorts > 0;
        }

        boolean hasSort(int s) {
            return s >= 0 && s < sorts;
        }

        boolean hasPlace(int s, int t) {
            return hasSort(s) && t >= 0 && t < hours;
        }

        int freshAt(int s, int t) {
            int fresh = freshness[s] - t * fades[s];
            return fresh > 0 ? fresh : 0;
        }

        int allFish() {
            int all = 0;
            for (int s = 0; s < sorts; s++) {
                all += fish[s];
            }
            return all;
        }

        int costOfAll() {
            int all = 0;
            for (int s = 0; s < sorts; s++) {
                all += fish[s] * cost[s];
            }
            return all;
        }

        boolean isCheaperNext(int s, int t) {
            return t + 1 < hours && prices[s][t + 1] < prices[s][t];
        }

        /** All prices from an HOUR on x less than those of another one. */
        void takeOffFrom(Stall other, int from, int x) {
            for (int s = 0; s < sorts; s++) {
                for (int t = 0; t < hours; t++) {
                    int price = other.prices[s][t];
                    prices[s][t] = t < from ? price : Math.max(0, price - x);
                }
            }
        }
    }

    /** Those who come, by their numbers. */
    private static final class Buyers {
        final int[] kind = new int[MOST_BUYERS];
        final int[] sort = new int[MOST_BUYERS];
        final int[] pays = new int[MOST_BUYERS];
        final int[] hour = new int[MOST_BUYERS];
        int count;

        boolean has(int x) {
            return x >= 0 && x < count;
        }

        int add(int ofKind, int ofSort, int paysAtMost, int inHour) {
            int x = count;
            kind[x] = ofKind;
            sort[x] = ofSort;
            pays[x] = paysAtMost;
            hour[x] = inHour;
            count = x + 1;
            return x;
        }

        void become(Buyers other) {
            count = other.count;
            System.arraycopy(other.kind, 0, kind, 0, MOST_BUYERS);
            System.arraycopy(other.sort, 0, sort, 0, MOST_BUYERS);
            System.arraycopy(other.pays, 0, pays, 0, MOST_BUYERS);
            System.arraycopy(other.hour, 0, hour, 0, MOST_BUYERS);
        }
    }

    /** A stall with its buyers, and how THE DAY goes with them. */
    private static final class Day {
        final Stall stall = new Stall();
        final Buyers buyers = new Buyers();
        final int[] left = new int[MOST_SORTS];
        final int[] gone = new int[MOST_SORTS];
        final int[] paid = new int[MOST_SORTS];
        final int[] tookSort = new int[MOST_BUYERS];
        final int[] tookHour = new int[MOST_BUYERS];
        final int[] tookFor = new int[MOST_BUYERS];
        final int[] came = new int[MOST_BUYERS];
        int income;
        private int cookSort;
        private int cookHour = NONE;
        private int cookPrice;

        /** The other's stall and buyers, no COOK. */
        void become(Day other) {
            stall.become(other.stall);
            buyers.become(other.buyers);
            cookHour = NONE;
        }

        void awaitCook(int s, int t, int price) {
            cookSort = s;
            cookHour = t;
            cookPrice = price;
        }

        /** All FISH lie there, nobody has come. */
        void open() {
            income = 0;
            for (int s = 0; s < stall.sorts; s++) {
                left[s] = stall.fish[s];
                gone[s] = NONE;
                paid[s] = 0;
            }
            for (int x = 0; x < buyers.count; x++) {
                tookSort[x] = NONE;
                tookHour[x] = NONE;
                tookFor[x] = NONE;
                came[x] = 0;
            }
        }

        void goThrough() {
            open();
            for (int t = 0; t < stall.hours; t++) {
                if (t == cookHour) {
                    sellAllToCook();
                }
                for (int x = 0; x < buyers.count; x++) {
                    if (!comes(x, t)) {
                        continue;
                    }
                    came[x]++;
                    int choice = choiceOf(x, t);
                    if (choice != NONE) {
                        sellOne(x, choice, t);
                    }
                }
            }
        }

        int allLeft() {
            int all = 0;
            for (int s = 0; s < stall.sorts; s++) {
                all += left[s];
            }
            return all;
        }

        int profit() {
            return income + stall.soup * allLeft() - stall.costOfAll();
        }

        int worthTo(int x, int s, int t) {
            int worth = buyers.pays[x] - (FRESHEST - stall.freshAt(s, t));
            if (s != buyers.sort[x]) {
                worth -= 2;
            }
            if (stall.beside && liesDearer(s, t)) {
                worth++;
            }
            return worth;
        }

        private boolean liesDearer(int s, int t) {
            for (int r = 0; r < stall.sorts; r++) {
                if (left[r] > 0 && stall.prices[r][t] > stall.prices[s][t]) {
                    return true;
                }
            }
            return false;
        }

        private void sellAllToCook() {
            income += left[cookSort] * cookPrice;
            left[cookSort] = 0;
        }

        private boolean comes(int x, int t) {
            if (buyers.kind[x] == WAITING) {
                return buyers.hour[x] <= t && tookSort[x] == NONE;
            }
            return buyers.hour[x] == t;
        }

        private void sellOne(int x, int s, int t) {
            int price = stall.prices[s][t];
            left[s]--;
            if (left[s] == 0) {
                gone[s] = t;
            }
            paid[s] += price;
            income += price;
            tookSort[x] = s;
            tookHour[x] = t;
            tookFor[x] = price;
        }

        /** The SORT that he buys in this HOUR, or NONE. */
        private int choiceOf(int x, int t) {
            int own = buyers.sort[x];
            if (buyers.kind[x] == WAITING && stall.isCheaperNext(own, t)) {
                return NONE;
            }
            if (gainOf(x, own, t) >= 0) {
                return own;
            }
            if (buyers.kind[x] == BUYER) {
                return NONE;
            }
            int choice = NONE;
            int most = -1;
            for (int s = 0; s < stall.sorts; s++) {
                // His own one has no gain here, so it never wins over the others.
                int gain = gainOf(x, s, t);
                if (gain > most) {
                    most = gain;
                    choice = s;
                }
            }
            return choice;
        }

        /** WORTH less price; below 0, if he can't or won't buy. */
        private int gainOf(int x, int s, int t) {
            return left[s] > 0 ? worthTo(x, s, t) - stall.prices[s][t] : -1;
        }
    }

    /** Goes through trial days beside today's, which stays as it is. */
    private static final class Search {
        final Day trial = new Day();
        /** FETCHED, by SORTS. */
        final int[] row = new int[MOST_SORTS];
        /** Which of a trial's SORTS ran out, for its FISH so far. */
        private final boolean[] ranOut = new boolean[MOST_SORTS];
        private final int[] raised = new int[MOST_SORTS];
        int profit;
        int hour;
        /** A price, or what is taken off. */
        int amount;

        int profitWithout(Day today, int s) {
            trial.become(today);
            trial.stall.fish[s] = 0;
            trial.goThrough();
            return trial.profit();
        }

        int profitWithCook(Day today, int s, int t, int price) {
            trial.become(today);
            trial.awaitCook(s, t, price);
            trial.goThrough();
            return trial.profit();
        }

        void findPrice(Day today, int s, int t) {
            trial.become(today);
            profit = BELOW_ALL_PROFITS;
            for (int price = 0; price <= DEAREST; price++) {
                trial.stall.prices[s][t] = price;
                trial.goThrough();
                if (trial.profit() > profit) {
                    profit = trial.profit();
                    amount = price;
                }
            }
        }

        void findTakingOff(Day today) {
            trial.become(today);
            trial.goThrough();
            profit = trial.profit();
            hour = NONE;
            amount = 0;
            for (int t = 0; t < today.stall.hours; t++) {
                for (int x = 1; x <= DEAREST; x++) {
                    trial.stall.takeOffFrom(today.stall, t, x);
                    trial.goThrough();
                    if (trial.profit() > profit) {
                        profit = trial.profit();
                        hour = t;
                        amount = x;
                    }
                }
            }
        }

        /**
         * Rows of FISH are gone through from all 0 on. Of a SORT of which one is left all the day,
         * more FISH change nothing but what is left for soup: such rows need no day of their own.
         */
        void findFetched(Day today) {
            trial.become(today);
            profit = BELOW_ALL_PROFITS;
            for (int s = 0; s < MOST_SORTS; s++) {
                trial.stall.fish[s] = 0;
                ranOut[s] = false;
            }
            boolean more = true;
            for (int count = 0; more && count < 10000; count++) {
                trial.goThrough();
                weighRow();
                more = goToNextRow();
            }
        }

        /** What this row brings, with all the FISH of which soup pays more than they cost. */
        private void weighRow() {
            Stall stall = trial.stall;
            int brings = trial.profit();
            for (int s = 0; s < stall.sorts; s++) {
                raised[s] = stall.fish[s];
                int gain = stall.soup - stall.cost[s];
                if (trial.left[s] == 0) {
                    ranOut[s] = true;
                } else if (gain > 0) {
                    raised[s] = MOST_FISH;
                    brings += gain * (MOST_FISH - stall.fish[s]);
                }
            }
            if (brings > profit || brings == profit && isRaisedFirst()) {
                profit = brings;
                System.arraycopy(raised, 0, row, 0, stall.sorts);
            }
        }

        private boolean isRaisedFirst() {
            for (int s = 0; s < trial.stall.sorts; s++) {
                if (raised[s] != row[s]) {
                    return raised[s] < row[s];
                }
            }
            return false;
        }

        private boolean goToNextRow() {
            for (int s = trial.stall.sorts - 1; s >= 0; s--) {
                boolean more = ranOut[s] && trial.stall.fish[s] < MOST_FISH;
                ranOut[s] = false;
                if (more) {
                    trial.stall.fish[s]++;
                    return true;
                }
                trial.stall.fish[s] = 0;
            }
            return false;
        }
    }

    /** Weights of how many will be wanted. */
    private static final class Odds {
        private final int[] weights = new int[MOST_WEIGHTS];
        private int count;
        int sum;

        /** Whether n cells from i on are weights; if so, they are those from now on. */
        boolean take(int[] cells, int i, int n) {
            if (!isWithin(n, 1, MOST_WEIGHTS) || !areAllWithin(cells, i, n, 0, MOST_MONEY)) {
                return false;
            }
            count = n;
            sum = 0;
            for (int wanted = 0; wanted < n; wanted++) {
                weights[wanted] = cells[i + wanted];
                sum += weights[wanted];
            }
            return sum > 0;
        }

        /** MEAN, times the sum of the weights. */
        int weighed(int q, int c, int p, int o) {
            int had = 0;
            for (int wanted = 0; wanted < count; wanted++) {
                int sold = Math.min(wanted, q);
                had += weights[wanted] * (sold * p + (q - sold) * o);
            }
            return had - sum * q * c;
        }

        int mostWorthwhile(int c, int p, int o) {
            int choice = 0;
            int most = weighed(0, c, p, o);
            for (int q = 1; q <= MOST_FETCHED; q++) {
                int has = weighed(q, c, p, o);
                if (has > most) {
                    most = has;
                    choice = q;
                }
            }
            return choice;
        }
    }

    /** Two who each do one of two things; outcomes 0 .. 3 as the document tells them. */
    private static final class Game {
        static final int OUTCOMES = 4, NUMBERS = 8, FARTHEST = 99;
        private final int[] seller = new int[OUTCOMES];
        private final int[] buyer = new int[OUTCOMES];

        /** Whether eight cells from i on are those of a GAME; if so, it is that from now on. */
        boolean take(int[] cells, int i) {
            if (!areAllWithin(cells, i, NUMBERS, -FARTHEST, FARTHEST)) {
                return false;
            }
            for (int outcome = 0; outcome < OUTCOMES; outcome++) {
                seller[outcome] = cells[i + 2 * outcome];
                buyer[outcome] = cells[i + 2 * outcome + 1];
            }
            return true;
        }

        int restingBits() {
            int bits = 0;
            for (int outcome = 0; outcome < OUTCOMES; outcome++) {
                // The seller's other thing turns the outcome's upper bit, the buyer's the lower one.
                if (seller[outcome ^ 2] <= seller[outcome] && buyer[outcome ^ 1] <= buyer[outcome]) {
                    bits |= 1 << outcome;
                }
            }
            return bits;
        }

        boolean hasMixed() {
            return isBetween(takingOffUpper(), takingOffLower()) && isBetween(buyingUpper(), buyingLower());
        }

        int takingOffUpper() {
            return buyer[3] - buyer[2];
        }

        int takingOffLower() {
            return buyer[0] - buyer[1] - buyer[2] + buyer[3];
        }

        int buyingUpper() {
            return seller[3] - seller[1];
        }

        int buyingLower() {
            return seller[0] - seller[1] - seller[2] + seller[3];
        }

        /** Whether a share is above 0 and below 1. */
        private static boolean isBetween(int upper, int lower) {
            return lower > 0 ? upper > 0 && upper < lower : upper < 0 && upper > lower;
        }
    }

    /** SHEETS: the rows of all LANES are held as ints that are cut as they come. */
    private static final class Sheets {
        static final int COUNT = 4, LONGEST = 60, LANES = 3, NOTHING = -1;
        final int[][] cells = new int[COUNT][LONGEST];
        final int[] lane = new int[COUNT];
        final int[] length = {NOTHING, NOTHING, NOTHING, NOTHING};

        static int cut(int v, int lane) {
            switch (lane) {
                case 0: return (byte) v;
                case 1: return (short) v;
                default: return v;
            }
        }

        boolean isThere(int k) {
            return k >= 0 && k < COUNT;
        }

        boolean isLane(int number) {
            return number >= 0 && number < LANES;
        }

        boolean hasRow(int k) {
            return length[k] != NOTHING;
        }

        /** Whether the row has n cells from i on. */
        boolean reaches(int k, int i, int n) {
            return i >= 0 && n >= 0 && i <= length[k] && n <= length[k] - i;
        }

        void give(int k, int ofLane, int n) {
            lane[k] = ofLane;
            length[k] = n;
            for (int i = 0; i < n; i++) {
                cells[k][i] = 0;
            }
        }
    }
}
