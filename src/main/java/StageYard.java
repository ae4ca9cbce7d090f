/**
 * A yard of stages: engines, a rocket of stages, its speeds, the best split of stuff, the cheapest
 * engines, flights through layers of air, costs, and a year's flights. DOC.md has the promises.
 */
public final class StageYard {
    public static final int NONE = -1, BAD = -2, STATE = -3, FULL = -4;

    private static final int NO_WAY = -5;

    private static final int MAX_ENGINES = 6, MAX_STAGES = 4, MAX_STUFF = 600, MAX_STORE = 99;
    private static final int MAX_BOUGHT = 900;
    private static final int LAYERS = 10, LAYER_HEIGHT = 1000, MAX_TICKS = 2000, MAX_PACE = 100000;
    private static final int KINDS_A_YEAR = 3, MONTHS = 12, MAX_FLIGHTS = 10;

    private static final int LOAD = 0, SHARE = 1, LEARN = 2;
    private static final int[] SETTING_LEAST = {0, 1, 50};
    private static final int[] SETTING_MOST = {999, 50, 100};

    private static final int LOADING_LIMIT = 0, HEIGHT_LIMIT = 1, PACE_LIMIT = 2;
    private static final int MAX_LIMIT = 1000000;

    private final int[] settings;
    private final Engines kinds;
    private final Rocket rocket;
    private final SplitSearch splitSearch;
    private final CheapestSearch cheapestSearch;
    private final Sky sky;
    private final Flight latest;
    private final Flight base;
    private final Flight trial;
    private boolean anyFlown;
    private final Year plan;

    public StageYard() {
        settings = new int[] {10, 10, 90};
        kinds = new Engines();
        rocket = new Rocket(kinds, settings);
        LowSums sums = new LowSums();
        splitSearch = new SplitSearch(rocket, sums);
        cheapestSearch = new CheapestSearch(rocket, sums);
        sky = new Sky();
        latest = new Flight(rocket, sky);
        base = new Flight(rocket, sky);
        trial = new Flight(rocket, sky);
        anyFlown = false;
        plan = new Year();
    }

    // ---- engines, stages

    public int engine(int thrust, int exhaust, int mass, int cost) {
        if (!within(thrust, 1, 999) || !within(exhaust, 1, 999)) {
            return BAD;
        }
        if (!within(mass, 1, 99) || !within(cost, 1, 9999)) {
            return BAD;
        }
        return kinds.add(thrust, exhaust, mass, cost);
    }

    public int store(int engine, int n) {
        if (!kinds.has(engine)) {
            return NONE;
        }
        if (!within(n, 1, MAX_STORE)) {
            return BAD;
        }
        int sum = kinds.stored[engine] + n;
        if (sum > MAX_STORE) {
            return FULL;
        }
        kinds.stored[engine] = sum;
        return sum;
    }

    public int stage(int engine, int many, int stuff, int frame) {
        if (!kinds.has(engine)) {
            return NONE;
        }
        if (!within(many, 1, 9) || !within(stuff, 0, MAX_STUFF) || !within(frame, 0, 99)) {
            return BAD;
        }
        return rocket.addOnTop(engine, many, stuff, frame);
    }

    public int undo() {
        if (rocket.size == 0) {
            return STATE;
        }
        rocket.size--;
        return rocket.size;
    }

    public int stuff(int stage, int n) {
        if (!rocket.has(stage)) {
            return NONE;
        }
        if (!within(n, 0, MAX_STUFF)) {
            return BAD;
        }
        return put(rocket.stuffOf, stage, n);
    }

    public int set(int what, int n) {
        if (!within(what, LOAD, LEARN)) {
            return NONE;
        }
        if (!within(n, SETTING_LEAST[what], SETTING_MOST[what])) {
            return BAD;
        }
        return put(settings, what, n);
    }

    public int about(int stage, int what) {
        if (!rocket.has(stage)) {
            return NONE;
        }
        switch (what) {
            case 0:
                return rocket.engineOf[stage];
            case 1:
                return rocket.manyOf[stage];
            case 2:
                return rocket.stuffOf[stage];
            case 3:
                return rocket.frameOf[stage];
            case 4:
                return rocket.dryOf(stage);
            case 5:
                return rocket.massFrom(stage);
            case 6:
                return rocket.lowOf(stage, 0);
            case 7:
                return rocket.highOf(stage);
            case 8:
                return rocket.liftOf(stage);
            default:
                return NONE;
        }
    }

    public int speed(int what) {
        if (!within(what, 0, 1)) {
            return NONE;
        }
        int sum = 0;
        for (int k = 0; k < rocket.size; k++) {
            sum += what == 0 ? rocket.lowOf(k, 0) : rocket.highOf(k);
        }
        return sum;
    }

    // ---- the best split, the cheapest engines

    public int split(int lots, int size) {
        if (!within(lots, 0, 20) || !within(size, 1, 30)) {
            return BAD;
        }
        if (rocket.size == 0) {
            return STATE;
        }
        return splitSearch.search(lots, size);
    }

    public int lots(int stage) {
        if (!within(stage, 0, splitSearch.stages - 1)) {
            return NONE;
        }
        return digitIn(splitSearch.bestKey, stage);
    }

    public int cheapest(int speed, int lift) {
        if (!within(speed, 0, 1000000) || !within(lift, 0, 1000)) {
            return BAD;
        }
        if (rocket.size == 0 || kinds.size == 0 || rocket.size > CheapestSearch.MOST_STAGES) {
            return STATE;
        }
        return cheapestSearch.search(speed, lift);
    }

    public int chosen(int stage, int what) {
        if (!within(stage, 0, cheapestSearch.stages - 1) || !within(what, 0, 1)) {
            return NONE;
        }
        int option = digitIn(cheapestSearch.chosenKey, stage);
        return what == 0 ? CheapestSearch.engineIn(option) : CheapestSearch.manyIn(option);
    }

    // ---- flights

    public int air(int layer, int n) {
        if (!within(layer, 0, LAYERS - 1)) {
            return NONE;
        }
        if (!within(n, 0, 999)) {
            return BAD;
        }
        return put(sky.airOf, layer, n);
    }

    public int limit(int what, int n) {
        if (!within(what, LOADING_LIMIT, PACE_LIMIT)) {
            return NONE;
        }
        if (!within(n, 0, MAX_LIMIT)) {
            return BAD;
        }
        return put(sky.limits, what, n);
    }

    public int fly() {
        if (rocket.allStuff() == 0) {
            return STATE;
        }
        latest.begin();
        latest.goOn(MAX_TICKS, false);
        anyFlown = true;
        return latest.breakNow();
    }

    public int flown(int what) {
        if (!anyFlown) {
            return NONE;
        }
        switch (what) {
            case 0:
                return latest.ticks;
            case 1:
                return latest.height;
            case 2:
                return latest.pace;
            case 3:
                return latest.greatest;
            case 4:
                return latest.greatestTick;
            case 5:
                return latest.brokenTick;
            case 6:
                return latest.lowest;
            default:
                return NONE;
        }
    }

    public int out(int tick) {
        if (!within(tick, 0, MAX_TICKS - 1)) {
            return BAD;
        }
        if (rocket.allStuff() == 0) {
            return STATE;
        }
        trial.begin();
        trial.goOn(tick, false);
        trial.loseEngine();
        trial.goOn(MAX_TICKS, false);
        return trial.breakNow();
    }

    public int safe() {
        if (rocket.allStuff() == 0) {
            return STATE;
        }
        base.begin();
        int sum = 0;
        // A break of LOADING ahead of a tick is there whatever fails from that tick on.
        for (int t = 0; t < MAX_TICKS && base.goesOn() && base.brokenTick == NONE; t++) {
            trial.copyOf(base);
            trial.loseEngine();
            trial.goOn(MAX_TICKS, true);
            if (trial.breakNow() == 0) {
                sum++;
            }
            base.goOn(t + 1, true);
        }
        return sum;
    }

    // ---- costs

    public int cost(int engine, int i) {
        if (!kinds.has(engine)) {
            return NONE;
        }
        if (!within(i, 0, 999)) {
            return BAD;
        }
        return kinds.costAt(engine, i, settings[LEARN]);
    }

    public int price() {
        if (rocket.size == 0) {
            return STATE;
        }
        return rocket.priceNow();
    }

    public int buy() {
        if (rocket.size == 0) {
            return STATE;
        }
        for (int e = 0; e < kinds.size; e++) {
            if (kinds.bought[e] + kinds.missing(e, rocket.neededOf(e)) > MAX_BOUGHT) {
                return FULL;
            }
        }
        int sum = rocket.priceNow();
        for (int e = 0; e < kinds.size; e++) {
            kinds.take(e, rocket.neededOf(e));
        }
        return sum;
    }

    public int keeping(int stage, int keep) {
        if (!rocket.has(stage)) {
            return NONE;
        }
        if (!within(keep, 0, 100) || keep > rocket.stuffOf[stage]) {
            return BAD;
        }
        return rocket.lowOf(stage, keep);
    }

    public int even(int stage, int mend, int gear) {
        if (!rocket.has(stage)) {
            return NONE;
        }
        if (!within(mend, 0, 200) || !within(gear, 0, 99999)) {
            return BAD;
        }
        long engines = rocket.enginesCost(stage);
        for (int f = 1; f <= 100; f++) {
            // Hundred times both sides, so that MEND's hundredths stay exact.
            long again = 100 * engines + 100L * gear + (f - 1) * mend * engines;
            if (again < 100 * f * engines) {
                return f;
            }
        }
        return NO_WAY;
    }

    // ---- a year

    public int flight(int a, int b, int c, int end, int worth) {
        if (!within(a, 0, 9) || !within(b, 0, 9) || !within(c, 0, 9)) {
            return BAD;
        }
        if (!within(end, 0, MONTHS - 1) || !within(worth, 0, 999)) {
            return BAD;
        }
        return plan.add(a, b, c, end, worth);
    }

    public int deliver(int engine, int month, int n) {
        if (!within(engine, 0, KINDS_A_YEAR - 1) || !within(month, 0, MONTHS - 1)) {
            return NONE;
        }
        if (!within(n, 0, 9)) {
            return BAD;
        }
        return put(plan.delivered, engine * MONTHS + month, n);
    }

    public int year() {
        plan.search();
        return plan.bestWorth;
    }

    public int flights() {
        plan.search();
        return plan.bestSet;
    }

    public int count(int what) {
        switch (what) {
            case 0:
                return kinds.size;
            case 1:
                return rocket.size;
            case 2:
                return plan.size;
            case 3:
                return sumOf(kinds.stored);
            case 4:
                return sumOf(kinds.bought);
            case 5:
                return rocket.massFrom(0);
            default:
                return NONE;
        }
    }

    // ---- helpers

    private static boolean within(int n, int least, int most) {
        return n >= least && n <= most;
    }

    private static int put(int[] row, int at, int n) {
        if (at < 0 || at >= row.length) {
            return NONE;
        }
        int was = row[at];
        row[at] = n;
        return was;
    }

    private static int sumOf(int[] row) {
        int sum = 0;
        for (int n : row) {
            sum += n;
        }
        return sum;
    }

    /**
     * A search keeps what it gave each stage as digits of 5 bits, stage 0 highest: then of two
     * equally good finds the one that comes first by stages is the lesser number.
     */
    private static int digitFor(int stage, int n) {
        return n << (5 * (MAX_STAGES - 1 - stage));
    }

    private static int digitIn(int key, int stage) {
        return (key >> (5 * (MAX_STAGES - 1 - stage))) & 31;
    }

    /** The kinds of engines, with what of them is in store and was ever bought. */
    private static final class Engines {
        final int[] thrust = new int[MAX_ENGINES];
        final int[] exhaust = new int[MAX_ENGINES];
        final int[] mass = new int[MAX_ENGINES];
        final int[] firstCost = new int[MAX_ENGINES];
        final int[] stored = new int[MAX_ENGINES];
        final int[] bought = new int[MAX_ENGINES];
        int size = 0;

        boolean has(int e) {
            return e >= 0 && e < size;
        }

        int add(int itsThrust, int itsExhaust, int itsMass, int itsCost) {
            if (size >= MAX_ENGINES) {
                return FULL;
            }
            thrust[size] = itsThrust;
            exhaust[size] = itsExhaust;
            mass[size] = itsMass;
            firstCost[size] = itsCost;
            size++;
            return size - 1;
        }

        int costAt(int e, int i, int learn) {
            if (!has(e)) {
                return 0;
            }
            int cost = firstCost[e];
            for (int k = 0; k < i && cost > 1; k++) {
                cost = nextCost(cost, learn);
            }
            return cost;
        }

        /** A cost that is cut to 0 stays there, so lifting it to 1 each time is as at the end. */
        private static int nextCost(int cost, int learn) {
            return Math.max(cost * learn / 100, 1);
        }

        int missing(int e, int needed) {
            return has(e) ? Math.max(needed - stored[e], 0) : 0;
        }

        int costOfMissing(int e, int needed, int learn) {
            int n = missing(e, needed);
            if (n == 0) {
                return 0;
            }
            int cost = costAt(e, bought[e], learn);
            int sum = 0;
            for (int k = 0; k < n; k++) {
                sum += cost;
                cost = nextCost(cost, learn);
            }
            return sum;
        }

        void take(int e, int needed) {
            if (!has(e)) {
                return;
            }
            int more = missing(e, needed);
            stored[e] -= needed - more;
            bought[e] += more;
        }
    }

    /** The stages, and what they weigh, gain and cost. */
    private static final class Rocket {
        final Engines kinds;
        final int[] settings;
        final int[] engineOf = new int[MAX_STAGES];
        final int[] manyOf = new int[MAX_STAGES];
        final int[] stuffOf = new int[MAX_STAGES];
        final int[] frameOf = new int[MAX_STAGES];
        int size = 0;

        Rocket(Engines itsKinds, int[] itsSettings) {
            kinds = itsKinds;
            settings = itsSettings;
        }

        boolean has(int k) {
            return k >= 0 && k < size;
        }

        int addOnTop(int itsEngine, int many, int itsStuff, int frame) {
            if (size >= MAX_STAGES) {
                return FULL;
            }
            engineOf[size] = itsEngine;
            manyOf[size] = many;
            stuffOf[size] = itsStuff;
            frameOf[size] = frame;
            size++;
            return size;
        }

        int load() {
            return settings[LOAD];
        }

        int tankFor(int itsStuff) {
            return (itsStuff * settings[SHARE] + 99) / 100;
        }

        int dryOf(int k) {
            return has(k) ? bareOf(k) + tankFor(stuffOf[k]) : 0;
        }

        int bareOf(int k) {
            return has(k) ? manyOf[k] * kinds.mass[engineOf[k]] + frameOf[k] : 0;
        }

        int exhaustOf(int k) {
            return has(k) ? kinds.exhaust[engineOf[k]] : 0;
        }

        int massFrom(int k) {
            int sum = load();
            for (int j = Math.max(k, 0); j < size; j++) {
                sum += dryOf(j) + stuffOf[j];
            }
            return sum;
        }

        int allStuff() {
            int sum = 0;
            for (int k = 0; k < size; k++) {
                sum += stuffOf[k];
            }
            return sum;
        }

        int lowOf(int k, int kept) {
            if (!has(k)) {
                return 0;
            }
            int top = 1000 * exhaustOf(k);
            int ahead = massFrom(k);
            int sum = 0;
            for (int burn = kept; burn < stuffOf[k] && ahead > 0; burn++) {
                sum += top / ahead;
                ahead--;
            }
            return sum;
        }

        int highOf(int k) {
            if (!has(k)) {
                return 0;
            }
            int top = 1000 * exhaustOf(k);
            int behind = massFrom(k) - 1;
            int sum = 0;
            for (int burn = 0; burn < stuffOf[k] && behind > 0; burn++) {
                sum += (top + behind - 1) / behind;
                behind--;
            }
            return sum;
        }

        int liftOf(int k) {
            if (!has(k)) {
                return 0;
            }
            int ahead = massFrom(k);
            return ahead < 1 ? 0 : 100 * kinds.thrust[engineOf[k]] * manyOf[k] / ahead;
        }

        int enginesCost(int k) {
            return has(k) ? manyOf[k] * kinds.firstCost[engineOf[k]] : 0;
        }

        int neededOf(int e) {
            int sum = 0;
            for (int k = 0; k < size; k++) {
                if (engineOf[k] == e) {
                    sum += manyOf[k];
                }
            }
            return sum;
        }

        int priceNow() {
            int sum = 0;
            for (int e = 0; e < kinds.size; e++) {
                sum += kinds.costOfMissing(e, neededOf(e), settings[LEARN]);
            }
            for (int k = 0; k < size; k++) {
                sum += frameOf[k];
                sum += stuffOf[k] > 0 ? settings[SHARE] : 0;
            }
            return sum;
        }
    }

    /**
     * LOW of one engine summed up over a range of masses, so that a search has a whole stage's LOW
     * by one subtraction. One row, made once and filled anew, serves every search: what calls make
     * is counted, and this way they make nothing.
     */
    private static final class LowSums {
        // In a search a stage's masses differ by those of 9 engines, or by tanks, and by stuff.
        private static final int SPAN = 9 * 99 + MAX_STUFF;

        private final int[] row = new int[SPAN + 1];
        private int from = 0;
        private int to = 0;

        void ready(int exhaust, int least, int most) {
            from = Math.max(least, 0);
            to = Math.min(most, from + SPAN);
            int top = 1000 * exhaust;
            int sum = 0;
            for (int mass = from + 1; mass <= to; mass++) {
                sum += top / mass;
                row[mass - from] = sum;
            }
        }

        int between(int behind, int ahead) {
            if (behind < from || ahead < behind || ahead > to) {
                return 0;
            }
            return row[ahead - from] - row[behind - from];
        }
    }

    /**
     * The best split, searched from the upper stage down, since what is above weighs on a stage.
     * What the stages above got weighs by two numbers alone: their lots, and the extra that their
     * tanks weigh as each is rounded up by itself. So the best for each such pair is all it keeps.
     */
    private static final class SplitSearch {
        private static final int MOST_LOTS = 20;
        // Four tanks rounded up one by one weigh 3 more than one for all, at most.
        private static final int EXTRAS = MAX_STAGES;

        private final Rocket rocket;
        private final LowSums sums;
        private final int[] lowAt = new int[(MOST_LOTS + 1) * EXTRAS];
        private final int[] keyAt = new int[(MOST_LOTS + 1) * EXTRAS];
        private int lotSize = 1;
        int bestKey = 0;
        int stages = 0;

        SplitSearch(Rocket itsRocket, LowSums itsSums) {
            rocket = itsRocket;
            sums = itsSums;
        }

        int search(int lotsInAll, int size) {
            lotSize = size;
            stages = rocket.size;
            for (int at = 0; at < lowAt.length; at++) {
                lowAt[at] = NONE;
            }
            lowAt[0] = 0;
            keyAt[0] = 0;
            int bare = rocket.load();
            for (int k = stages - 1; k >= 0; k--) {
                bare += rocket.bareOf(k);
                int most = bare + lotsInAll * lotSize + tankFor(lotsInAll) + EXTRAS;
                sums.ready(rocket.exhaustOf(k), bare, most);
                // From the most lots on: those with fewer are still as the stages above left them.
                for (int sum = Math.min(lotsInAll, MOST_LOTS); sum > 0; sum--) {
                    fill(k, bare, sum);
                }
            }
            return tellBest(lotsInAll);
        }

        private int tankFor(int n) {
            return rocket.tankFor(n * lotSize);
        }

        /** Stage k gets 1 lot or more of a sum; with none what the stages above got stays. */
        private void fill(int k, int bare, int sum) {
            for (int n = 1; n <= sum; n++) {
                int above = sum - n;
                int tanks = tankFor(above) + tankFor(n);
                int more = tanks - tankFor(sum);
                int behind = bare + above * lotSize + tanks;
                for (int extra = 0; extra < EXTRAS; extra++) {
                    int at = above * EXTRAS + extra;
                    if (lowAt[at] != NONE) {
                        int mass = behind + extra;
                        int low = lowAt[at] + sums.between(mass, mass + n * lotSize);
                        offer(sum * EXTRAS + extra + more, low, keyAt[at] + digitFor(k, n));
                    }
                }
            }
        }

        /** Offers come with ever more lots in the stage: of equally good ones the first stays. */
        private void offer(int at, int low, int key) {
            if (at >= 0 && at < lowAt.length && low > lowAt[at]) {
                lowAt[at] = low;
                keyAt[at] = key;
            }
        }

        private int tellBest(int lotsInAll) {
            int best = NONE;
            for (int extra = 0; extra < EXTRAS; extra++) {
                int at = lotsInAll * EXTRAS + extra;
                if (at < 0 || at >= lowAt.length || lowAt[at] == NONE) {
                    continue;
                }
                if (lowAt[at] > best || lowAt[at] == best && keyAt[at] < bestKey) {
                    best = lowAt[at];
                    bestKey = keyAt[at];
                }
            }
            return best;
        }
    }

    /**
     * The cheapest engines, searched from the upper stage down. The choices for the stages so far
     * stand in rows: first the one for no stage, then those for the top one, then for the upper
     * two; those for three are never kept.
     */
    private static final class CheapestSearch {
        static final int MOST_STAGES = 3;
        private static final int MOST_ENGINES = 3;
        private static final int OPTIONS = MAX_ENGINES * MOST_ENGINES;
        private static final int CHOICES = 1 + OPTIONS + OPTIONS * OPTIONS;
        private static final int DEAR = 1000000;

        private final Rocket rocket;
        private final Engines kinds;
        private final LowSums sums;
        private final int[] massOf = new int[CHOICES];
        private final int[] lowOf = new int[CHOICES];
        private final int[] costOf = new int[CHOICES];
        private final int[] keyOf = new int[CHOICES];
        private int kept = 0;
        private int wantedSpeed = 0;
        private int wantedLift = 0;
        private int bestCost = DEAR;
        private int bestKey = 0;
        int chosenKey = 0;
        int stages = 0;

        CheapestSearch(Rocket itsRocket, LowSums itsSums) {
            rocket = itsRocket;
            kinds = itsRocket.kinds;
            sums = itsSums;
        }

        /** An engine and how many as one digit, the lesser engine first, then the fewer. */
        private static int optionOf(int e, int many) {
            return e * MOST_ENGINES + many - 1;
        }

        static int engineIn(int option) {
            return option / MOST_ENGINES;
        }

        static int manyIn(int option) {
            return option % MOST_ENGINES + 1;
        }

        int search(int itsSpeed, int itsLift) {
            wantedSpeed = itsSpeed;
            wantedLift = itsLift;
            bestCost = DEAR;
            kept = 0;
            keep(rocket.load(), 0, 0, 0);
            int from = 0;
            for (int k = rocket.size - 1; k >= 0; k--) {
                int to = kept;
                chooseFor(k, from, to);
                from = to;
            }
            if (bestCost == DEAR) {
                return NO_WAY;
            }
            chosenKey = bestKey;
            stages = rocket.size;
            return bestCost;
        }

        /** Engine by engine, since the sums are of one at a time. */
        private void chooseFor(int k, int from, int to) {
            if (!rocket.has(k) || from < 0 || from >= to || to > CHOICES) {
                return;
            }
            int shell = rocket.frameOf[k] + rocket.tankFor(rocket.stuffOf[k]);
            int least = massOf[from];
            int most = least;
            for (int at = from; at < to; at++) {
                least = Math.min(least, massOf[at]);
                most = Math.max(most, massOf[at]);
            }
            for (int e = 0; e < kinds.size; e++) {
                int heaviest = most + shell + MOST_ENGINES * kinds.mass[e] + rocket.stuffOf[k];
                sums.ready(kinds.exhaust[e], least + shell, heaviest);
                for (int at = from; at < to; at++) {
                    chooseEngine(k, e, at, massOf[at] + shell);
                }
            }
        }

        private void chooseEngine(int k, int e, int at, int bare) {
            for (int many = 1; many <= MOST_ENGINES; many++) {
                int cost = costOf[at] + many * kinds.firstCost[e];
                if (cost > bestCost) {
                    return;
                }
                int behind = bare + many * kinds.mass[e];
                int ahead = behind + rocket.stuffOf[k];
                if (!lifts(e, many, ahead)) {
                    continue;
                }
                int low = lowOf[at] + sums.between(behind, ahead);
                int key = keyOf[at] + digitFor(k, optionOf(e, many));
                if (k == 0) {
                    offer(low, cost, key);
                } else {
                    keep(ahead, low, cost, key);
                }
            }
        }

        private boolean lifts(int e, int many, int ahead) {
            return ahead > 0 && 100 * many * kinds.thrust[e] / ahead >= wantedLift;
        }

        private void keep(int mass, int low, int cost, int key) {
            if (kept >= CHOICES) {
                return;
            }
            massOf[kept] = mass;
            lowOf[kept] = low;
            costOf[kept] = cost;
            keyOf[kept] = key;
            kept++;
        }

        private void offer(int low, int cost, int key) {
            if (low < wantedSpeed) {
                return;
            }
            if (cost < bestCost || cost == bestCost && key < bestKey) {
                bestCost = cost;
                bestKey = key;
            }
        }
    }

    /** The air of the layers, and the limits of a flight. */
    private static final class Sky {
        final int[] airOf = new int[LAYERS];
        final int[] limits = {MAX_LIMIT, 0, 0};

        Sky() {
            for (int k = 0; k < LAYERS; k++) {
                airOf[k] = 100 - 10 * k;
            }
        }

        int dragOf(int pace, int height) {
            if (pace == 0 || height < 0 || height >= LAYERS * LAYER_HEIGHT) {
                return 0;
            }
            long square = (long) pace * pace / 100;
            return (int) (square * airOf[height / LAYER_HEIGHT] / 100);
        }
    }

    /** A flight of the rocket as it stands behind some of its ticks. */
    private static final class Flight {
        private final Rocket rocket;
        private final Sky sky;
        int lowest = 0;
        private int left = 0;
        private int working = 0;
        private int thrust = 0;
        private int mass = 0;
        private int stuffLeft = 0;
        int ticks = 0;
        int height = 0;
        int pace = 0;
        int greatest = 0;
        int greatestTick = 0;
        int brokenTick = NONE;

        Flight(Rocket itsRocket, Sky itsSky) {
            rocket = itsRocket;
            sky = itsSky;
        }

        void begin() {
            lowest = 0;
            mass = rocket.massFrom(0);
            stuffLeft = rocket.allStuff();
            ticks = 0;
            height = 0;
            pace = 0;
            greatest = 0;
            greatestTick = 0;
            brokenTick = NONE;
            readyLowest();
        }

        void copyOf(Flight other) {
            lowest = other.lowest;
            left = other.left;
            working = other.working;
            thrust = other.thrust;
            mass = other.mass;
            stuffLeft = other.stuffLeft;
            ticks = other.ticks;
            height = other.height;
            pace = other.pace;
            greatest = other.greatest;
            greatestTick = other.greatestTick;
            brokenTick = other.brokenTick;
        }

        boolean goesOn() {
            return stuffLeft > 0 && ticks < MAX_TICKS;
        }

        private void readyLowest() {
            boolean there = rocket.has(lowest);
            left = there ? rocket.stuffOf[lowest] : 0;
            working = there ? rocket.manyOf[lowest] : 0;
            thrust = there ? rocket.kinds.thrust[rocket.engineOf[lowest]] : 0;
        }

        private void dropLowest() {
            mass -= rocket.dryOf(lowest) + left;
            stuffLeft -= left;
            lowest++;
            readyLowest();
        }

        /** An engine of the stage that would burn in the coming tick works no more. */
        void loseEngine() {
            if (!goesOn()) {
                return;
            }
            for (int k = 0; k < MAX_STAGES && left == 0; k++) {
                dropLowest();
            }
            working--;
            if (working < 1) {
                dropLowest();
            }
        }

        /**
         * Flies up to a tick, a stage a round; hasty: no further than the first break of LOADING.
         * A stage without stuff falls off ahead of a tick, so none does behind the last stuff.
         */
        void goOn(int until, boolean hasty) {
            for (int k = 0; k < MAX_STAGES && goesOn() && ticks < until; k++) {
                burnLowest(until, hasty);
                if (left == 0) {
                    dropLowest();
                }
                if (hasty && brokenTick != NONE) {
                    return;
                }
            }
        }

        /** The ticks of one stage, in locals: safe() goes through a great many of them. */
        private void burnLowest(int until, boolean hasty) {
            int h = height;
            int p = pace;
            int m = mass;
            int rest = left;
            int t = ticks;
            while (rest > 0 && t < until && t < MAX_TICKS && m > 0 && working > 0) {
                int burnt = Math.min(rest, working);
                int drag = sky.dragOf(p, h);
                if (drag > greatest) {
                    noteLoading(drag, t);
                }
                int push = 100 * (thrust * burnt - m);
                p += (p < 0 ? push + drag : push - drag) / m;
                p = Math.max(-MAX_PACE, Math.min(p, MAX_PACE));
                h += p;
                if (h < 0) {
                    h = 0;
                    p = 0;
                }
                rest -= burnt;
                m -= burnt;
                t++;
                if (hasty && brokenTick != NONE) {
                    break;
                }
            }
            height = h;
            pace = p;
            mass = m;
            stuffLeft -= left - rest;
            left = rest;
            ticks = t;
        }

        private void noteLoading(int drag, int tick) {
            greatest = drag;
            greatestTick = tick;
            if (brokenTick == NONE && drag > sky.limits[LOADING_LIMIT]) {
                brokenTick = tick;
            }
        }

        int breakNow() {
            if (brokenTick != NONE) {
                return 1;
            }
            if (height < sky.limits[HEIGHT_LIMIT]) {
                return 2;
            }
            return pace < sky.limits[PACE_LIMIT] ? 3 : 0;
        }
    }

    /** The year's flights, and what engines are delivered for them. */
    private static final class Year {
        private final int[] needs = new int[MAX_FLIGHTS * KINDS_A_YEAR];
        private final int[] endOf = new int[MAX_FLIGHTS];
        private final int[] worthOf = new int[MAX_FLIGHTS];
        private final int[] byEnd = new int[MAX_FLIGHTS];
        final int[] delivered = new int[KINDS_A_YEAR * MONTHS];
        private final int[] upTo = new int[KINDS_A_YEAR * MONTHS];
        int size = 0;
        int bestWorth = 0;
        int bestSet = 0;

        int add(int a, int b, int c, int end, int worth) {
            if (size >= MAX_FLIGHTS) {
                return FULL;
            }
            needs[size * KINDS_A_YEAR] = a;
            needs[size * KINDS_A_YEAR + 1] = b;
            needs[size * KINDS_A_YEAR + 2] = c;
            endOf[size] = end;
            worthOf[size] = worth;
            int at = size;
            while (at > 0 && endOf[byEnd[at - 1]] > end) {
                byEnd[at] = byEnd[at - 1];
                at--;
            }
            byEnd[at] = size;
            size++;
            return size - 1;
        }

        void search() {
            for (int kind = 0; kind < KINDS_A_YEAR; kind++) {
                int sum = 0;
                for (int month = 0; month < MONTHS; month++) {
                    sum += delivered[kind * MONTHS + month];
                    upTo[kind * MONTHS + month] = sum;
                }
            }
            bestWorth = 0;
            bestSet = 0;
            choose(0, 0, 0, 0, 0, 0);
        }

        /** By months: then what the chosen ones used so far is all that a flight finds gone. */
        private void choose(int at, int a, int b, int c, int worth, int set) {
            if (at < 0 || at >= size) {
                offer(worth, set);
                return;
            }
            choose(at + 1, a, b, c, worth, set);
            int f = byEnd[at];
            int end = endOf[f];
            int nowA = a + needs[f * KINDS_A_YEAR];
            int nowB = b + needs[f * KINDS_A_YEAR + 1];
            int nowC = c + needs[f * KINDS_A_YEAR + 2];
            if (nowA <= upTo[end] && nowB <= upTo[MONTHS + end] && nowC <= upTo[2 * MONTHS + end]) {
                choose(at + 1, nowA, nowB, nowC, worth + worthOf[f], set | 1 << f);
            }
        }

        private void offer(int worth, int set) {
            if (worth > bestWorth || worth == bestWorth && set < bestSet) {
                bestWorth = worth;
                bestSet = set;
            }
        }
    }
}
