import java.util.Random;

/** Runs of calls, the same ones each time, on StageYard and on PlainYard: all answers must agree. */
public final class PlainCompareTest {
    private static final int RUNS = 1500, CALLS = 120;
    private static int wrong = 0;

    private final Random random;
    private final StageYard yard = new StageYard();
    private final PlainYard plain = new PlainYard();
    private final int style;
    private String call = "";

    private PlainCompareTest(int seed) {
        random = new Random(seed);
        style = seed % 5;
    }

    public static void main(String[] args) {
        for (int seed = 0; seed < RUNS && wrong < 20; seed++) {
            new PlainCompareTest(seed).run(seed);
        }
        new PlainCompareTest(4).heaviest();
        for (int seed = 0; seed < 6 && wrong < 20; seed++) new PlainCompareTest(seed).widest();
        for (int seed = 0; seed < 100 && wrong < 20; seed++) new PlainCompareTest(seed).tied();
        System.out.println(wrong == 0 ? "StageYard agrees with PlainYard" : wrong + " answers differ");
        if (wrong != 0) System.exit(1);
    }

    private void run(int seed) {
        for (int i = 0; i < CALLS; i++) {
            int which = i < 12 ? (i < 3 ? 0 : i < 6 ? 2 : random.nextInt(32)) : random.nextInt(32);
            int[] both = i % 9 == 8 ? pairOfSame(which) : pairOf(which);
            if (both[0] != both[1]) {
                wrong++;
                System.out.println("seed " + seed + ", call " + i + " " + call + " answered " + both[0] + ", due is " + both[1]);
                return;
            }
        }
    }

    private void must(int[] both) {
        if (both[0] != both[1]) {
            wrong++;
            System.out.println("a rocket of the ends, " + call + " answered " + both[0] + ", due is " + both[1]);
        }
    }

    /** All as heavy and as long as can be: the ends of all rows. */
    private void heaviest() {
        for (int e = 0; e < 6; e++) must(told("engine", yard.engine(999, 999 - e, 99, 9999), plain.engine(999, 999 - e, 99, 9999)));
        must(told("set", yard.set(0, 999), plain.set(0, 999)));
        must(told("set", yard.set(1, 50), plain.set(1, 50)));
        for (int k = 0; k < 4; k++) {
            must(told("stage", yard.stage(k, 9, 600, 99), plain.stage(k, 9, 600, 99)));
            must(told("split", yard.split(20, 30), plain.split(20, 30)));
            must(told("cheapest", yard.cheapest(1000, 9), plain.cheapest(1000, 9)));
            must(told("speed low", yard.speed(0), plain.speed(0)));
            must(told("speed high", yard.speed(1), plain.speed(1)));
            must(told("fly", yard.fly(), plain.fly()));
            must(told("safe", yard.safe(), plain.safe()));
            must(told("price", yard.price(), plain.price()));
            must(pairOfSame(0));
        }
        must(told("mass", yard.count(5), 4 * (891 + 300 + 99 + 600) + 999));
    }

    /** The lightest engines beside the heaviest, all stuff: the widest ranges that a search meets. */
    private void widest() {
        for (int e = 0; e < 6; e++) {
            int exhaust = 1 + random.nextInt(999), mass = e % 2 == 0 ? 99 : 1, cost = 1 + random.nextInt(style == 0 ? 3 : 999);
            must(told("engine", yard.engine(999, exhaust, mass, cost), plain.engine(999, exhaust, mass, cost)));
        }
        must(told("set", yard.set(0, 0), plain.set(0, 0)));
        for (int k = 0; k < 4; k++) {
            must(told("stage", yard.stage(k, k + 1, 600, 0), plain.stage(k, k + 1, 600, 0)));
            for (int i = 0; i < 5; i++) {
                int share = random.nextInt(3) == 0 ? 50 : 1 + random.nextInt(50), size = 30 - random.nextInt(3);
                must(told("set", yard.set(1, share), plain.set(1, share), 1, share));
                must(told("split", yard.split(20, size), plain.split(20, size), 20, size));
                int speed = random.nextInt(1 + 2 * plain.speed(0)), lift = random.nextInt(150);
                must(told("cheapest", yard.cheapest(speed, lift), plain.cheapest(speed, lift), speed, lift));
                must(pairOfSame(0));
            }
        }
    }

    /** Small rockets and small costs: many choices as cheap, many splits as good. */
    private void tied() {
        for (int e = 0; e < 4; e++) {
            int thrust = 1 + random.nextInt(30), exhaust = 1 + random.nextInt(style < 2 ? 5 : 99);
            int mass = 1 + random.nextInt(9), cost = 1 + random.nextInt(3);
            must(told("engine", yard.engine(thrust, exhaust, mass, cost), plain.engine(thrust, exhaust, mass, cost)));
        }
        must(told("set", yard.set(0, style), plain.set(0, style)));
        for (int k = 0; k < 4; k++) {
            int n = random.nextInt(7);
            must(told("stage", yard.stage(k, 1, n, style), plain.stage(k, 1, n, style)));
            for (int i = 0; i < 3; i++) {
                int count = random.nextInt(8), speed = random.nextInt(1 + plain.speed(0)), lift = random.nextInt(150);
                must(told("split", yard.split(count, i + 1), plain.split(count, i + 1), count, i + 1));
                must(told("cheapest", yard.cheapest(speed, lift), plain.cheapest(speed, lift), speed, lift));
                must(pairOfSame(0));
            }
        }
    }

    /** Now and then a row of the asking calls, so that wrong state is seen soon. */
    private int[] pairOfSame(int which) {
        int[] both = {0, 0};
        for (int k = -1; k <= 4; k++) {
            for (int what = -1; what <= 9; what++) {
                call = "asking(" + k + ", " + what + ")";
                both[0] = both[0] * 31 + yard.about(k, what) * 7 + yard.chosen(k, what) * 5 + yard.flown(what) * 3 + yard.count(what) + yard.lots(k) + yard.speed(what);
                both[1] = both[1] * 31 + plain.about(k, what) * 7 + plain.chosen(k, what) * 5 + plain.flown(what) * 3 + plain.count(what) + plain.lots(k) + plain.speed(what);
            }
        }
        return both;
    }

    /** Mostly within the range, often at its edges, now and then off it. */
    private int pick(int least, int most) {
        switch (random.nextInt(24)) {
            case 0: return least - 1;
            case 1: return most + 1;
            case 2: return random.nextInt();
            case 3: return random.nextBoolean() ? Integer.MIN_VALUE : Integer.MAX_VALUE;
            case 4: case 5: return least;
            case 6: case 7: return most;
            default: return least + random.nextInt(most - least + 1);
        }
    }

    private int[] told(String name, int got, int due, int... arguments) {
        StringBuilder text = new StringBuilder(name).append('(');
        for (int n : arguments) text.append(text.charAt(text.length() - 1) == '(' ? "" : ", ").append(n);
        call = text.append(')').toString();
        return new int[] {got, due};
    }

    private int stuffNow() {
        return style == 0 ? pick(0, 20) : style == 4 ? pick(0, 600) : pick(0, 120);
    }

    private int[] pairOf(int which) {
        int a, b, c, d, e;
        switch (which) {
            case 0: case 1:
                a = style == 1 ? pick(1, 60) : pick(1, 999);
                b = pick(1, 999);
                c = style < 3 ? pick(1, 9) : pick(1, 99);
                d = style == 2 ? pick(1, 3) : pick(1, 9999);
                return told("engine", yard.engine(a, b, c, d), plain.engine(a, b, c, d), a, b, c, d);
            case 2: case 3:
                a = pick(0, Math.max(plain.kinds.size() - 1, 0));
                b = style == 4 ? pick(1, 9) : pick(1, 4);
                c = stuffNow();
                d = pick(0, 99);
                return told("stage", yard.stage(a, b, c, d), plain.stage(a, b, c, d), a, b, c, d);
            case 4:
                return told("undo", yard.undo(), plain.undo());
            case 5:
                a = pick(0, 5);
                b = pick(1, 99);
                return told("store", yard.store(a, b), plain.store(a, b), a, b);
            case 6:
                a = pick(0, 3);
                b = stuffNow();
                return told("stuff", yard.stuff(a, b), plain.stuff(a, b), a, b);
            case 7:
                a = pick(0, 2);
                b = a == 0 ? pick(0, style == 1 ? 20 : 999) : a == 1 ? pick(1, 50) : pick(50, 100);
                return told("set", yard.set(a, b), plain.set(a, b), a, b);
            case 8:
                a = pick(0, 3);
                b = pick(0, 8);
                return told("about", yard.about(a, b), plain.about(a, b), a, b);
            case 9:
                a = pick(0, 1);
                return told("speed", yard.speed(a), plain.speed(a), a);
            case 10:
                a = style == 4 ? pick(0, 9) : pick(0, 20);
                b = style == 4 ? pick(1, 30) : pick(1, 4);
                return told("split", yard.split(a, b), plain.split(a, b), a, b);
            case 11:
                a = pick(0, 3);
                return told("lots", yard.lots(a), plain.lots(a), a);
            case 12:
                if (style == 4) return told("count", yard.count(5), plain.count(5), 5);
                a = random.nextBoolean() ? pick(0, 1000000) : random.nextInt(100000);
                b = random.nextBoolean() ? pick(0, 1000) : random.nextInt(60);
                return told("cheapest", yard.cheapest(a, b), plain.cheapest(a, b), a, b);
            case 13:
                a = pick(0, 2);
                b = pick(0, 1);
                return told("chosen", yard.chosen(a, b), plain.chosen(a, b), a, b);
            default:
                return laterPairOf(which);
        }
    }

    private int[] laterPairOf(int which) {
        int a, b, c, d, e;
        switch (which) {
            case 14:
                a = pick(0, 9);
                b = pick(0, 999);
                return told("air", yard.air(a, b), plain.air(a, b), a, b);
            case 15:
                a = pick(0, 2);
                b = random.nextInt(3) == 0 ? pick(0, 1000000) : random.nextInt(a == 0 ? 20000 : 2000);
                return told("limit", yard.limit(a, b), plain.limit(a, b), a, b);
            case 16: case 17:
                return told("fly", yard.fly(), plain.fly());
            case 18:
                a = pick(0, 6);
                return told("flown", yard.flown(a), plain.flown(a), a);
            case 19:
                a = random.nextInt(4) == 0 ? pick(0, 1999) : random.nextInt(60);
                return told("out", yard.out(a), plain.out(a), a);
            case 20:
                return told("safe", yard.safe(), plain.safe());
            case 21:
                a = pick(0, 5);
                b = random.nextBoolean() ? pick(0, 999) : random.nextInt(50);
                return told("cost", yard.cost(a, b), plain.cost(a, b), a, b);
            case 22:
                return told("price", yard.price(), plain.price());
            case 23:
                return told("buy", yard.buy(), plain.buy());
            case 24:
                a = pick(0, 3);
                b = pick(0, 100);
                return told("keeping", yard.keeping(a, b), plain.keeping(a, b), a, b);
            case 25:
                a = pick(0, 3);
                b = pick(0, 200);
                c = random.nextBoolean() ? pick(0, 99999) : random.nextInt(900);
                return told("even", yard.even(a, b, c), plain.even(a, b, c), a, b, c);
            case 26: case 27:
                a = pick(0, 9) % 10;
                b = pick(0, 9) % 10;
                c = pick(0, 9) % 10;
                d = pick(0, 11);
                e = style == 2 ? random.nextInt(3) : pick(0, 999);
                return told("flight", yard.flight(a, b, c, d, e), plain.flight(a, b, c, d, e), a, b, c, d, e);
            case 28: case 29:
                a = pick(0, 2);
                b = pick(0, 11);
                c = pick(0, 9);
                return told("deliver", yard.deliver(a, b, c), plain.deliver(a, b, c), a, b, c);
            case 30:
                return told("year", yard.year(), plain.year());
            default:
                return told("flights", yard.flights(), plain.flights());
        }
    }
}
