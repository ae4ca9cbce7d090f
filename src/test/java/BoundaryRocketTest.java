/** Promises 1 to 9, the sentences that name a boundary case: engines, stages and their speeds. */
public final class BoundaryRocketTest extends Boundary {
    public static void main(String[] args) {
        noEnginesNoStages();
        atFirst();
        engineRanges();
        sixEngines();
        engineRefusals();
        storeRange();
        storeOfNoEngine();
        storeFull();
        stageRanges();
        stageOfNoEngine();
        fourStages();
        undoDownToNone();
        stuffRange();
        stuffOfNoStage();
        setRanges();
        setOfNoWhat();
        aboutOfNone();
        tanksRoundedUp();
        massAhead();
        lowCutHighUp();
        speedOfNothing();
        weightOfOne();
        liftCut();
        speedOfNoWhat();
        heaviest();
        end();
    }

    private static void noEnginesNoStages() {
        says(1, "No ENGINES, no STAGES.");
        StageYard x = new StageYard();
        due("count(0)", x.count(0), 0);
        due("count(1)", x.count(1), 0);
        refused("store", NONE, Boundary::fresh, y -> y.store(0, 1));
        refused("stage", NONE, Boundary::fresh, y -> y.stage(0, 1, 1, 1));
        refused("cost", NONE, Boundary::fresh, y -> y.cost(0, 0));
        refused("undo", STATE, Boundary::fresh, y -> y.undo());
        refused("stuff", NONE, Boundary::fresh, y -> y.stuff(0, 1));
        refused("about", NONE, Boundary::fresh, y -> y.about(0, 0));
        refused("keeping", NONE, Boundary::fresh, y -> y.keeping(0, 0));
        refused("even", NONE, Boundary::fresh, y -> y.even(0, 0, 0));
        refused("fly", STATE, Boundary::fresh, y -> y.fly());
        refused("price", STATE, Boundary::fresh, y -> y.price());
        refused("buy", STATE, Boundary::fresh, y -> y.buy());
        StageYard other = new StageYard();
        other.engine(1, 1, 1, 1);
        other.stage(0, 1, 1, 1);
        due("engines of another object", x.count(0), 0);
        due("stages of another object", x.count(1), 0);
    }

    private static void atFirst() {
        says(1, "how many are in STORE (0 .. 99; 0 at first)");
        due("in store, no engine", new StageYard().count(3), 0);
        StageYard x = oneEngine();
        due("in store, one engine", x.count(3), 0);
        due("the first that comes", x.store(0, 1), 1);
        says(1, "(1 .. 50; 10 at first)");
        due("share", new StageYard().set(1, 20), 10);
        says(1, "a LOAD (0 .. 999; 10 at first)");
        due("load", new StageYard().set(0, 20), 10);
        due("mass of the load alone", new StageYard().count(5), 10);
        says(1, "LEARN (50 .. 100; 90 at first)");
        due("learn", new StageYard().set(2, 70), 90);
    }

    private static void engineRanges() {
        says(2, "THRUST, EXHAUST (1 .. 999 each)");
        range("thrust", 1, 999, BAD, Boundary::rich, (x, n) -> x.engine(n, 5, 5, 5));
        range("exhaust", 1, 999, BAD, Boundary::rich, (x, n) -> x.engine(5, n, 5, 5));
        says(2, "MASS (1 .. 99)");
        range("mass", 1, 99, BAD, Boundary::rich, (x, n) -> x.engine(5, 5, n, 5));
        says(2, "COST (1 .. 9999)");
        range("cost", 1, 9999, BAD, Boundary::rich, (x, n) -> x.engine(5, 5, 5, n));
        StageYard x = new StageYard();
        x.engine(1, 1, 1, 1);
        x.engine(999, 999, 99, 9999);
        due("cost of the least", x.cost(0, 0), 1);
        due("cost of the most", x.cost(1, 0), 9999);
        x.set(0, 0);
        x.stage(0, 1, 0, 0);
        due("mass of the least", x.about(0, 4), 1);
        due("lift of the least", x.about(0, 8), 100);
        x.undo();
        x.stage(1, 1, 1, 0);
        due("mass of the most, and a tank", x.about(0, 4), 100);
        due("99900 by 101", x.about(0, 8), 989);
        due("999000 by 101", x.about(0, 6), 9891);
    }

    private static void sixEngines() {
        says(2, "ENGINES are numbered from 0 on, 6 at most");
        StageYard x = new StageYard();
        for (int e = 0; e < 6; e++) due("engine " + e, x.engine(5, 5, 5, 5), e);
        due("a seventh", x.engine(5, 5, 5, 5), FULL);
        due("an eighth", x.engine(5, 5, 5, 5), FULL);
        due("there are six", x.count(0), 6);
        due("the last is there", x.cost(5, 0), 5);
        due("there is none behind it", x.cost(6, 0), NONE);
        refused("one too many", FULL, Boundary::full, y -> y.engine(7, 7, 7, 7));
    }

    private static void engineRefusals() {
        says(2, "An ENGINE more: its number. BAD; FULL.");
        refused("BAD thrust, and full", BAD, Boundary::full, x -> x.engine(0, 7, 7, 7));
        refused("BAD exhaust, and full", BAD, Boundary::full, x -> x.engine(7, 1000, 7, 7));
        refused("BAD mass, and full", BAD, Boundary::full, x -> x.engine(7, 7, 100, 7));
        refused("BAD cost, and full", BAD, Boundary::full, x -> x.engine(7, 7, 7, 0));
        refused("all four", BAD, Boundary::rich, x -> x.engine(0, 1000, 0, 10000));
    }

    private static void storeRange() {
        says(3, "n (1 .. 99) of an ENGINE come to STORE: how many there are.");
        range("n", 1, 99, BAD, Boundary::oneEngine, (x, n) -> x.store(0, n));
        StageYard x = oneEngine();
        x.engine(1, 1, 1, 1);
        due("the least", x.store(0, 1), 1);
        due("the most", x.store(1, 99), 99);
        due("both kinds", x.count(3), 100);
    }

    private static void storeOfNoEngine() {
        says(3, "NONE; BAD; FULL: more than 99.");
        range("engine", 0, 2, NONE, Boundary::rich, (x, e) -> x.store(e, 1));
        range("engine, all six", 0, 5, NONE, BoundaryRocketTest::sixWithoutStore, (x, e) -> x.store(e, 1));
        refused("no engine, and too few", NONE, Boundary::rich, x -> x.store(3, 0));
        refused("no engine, and too many", NONE, Boundary::rich, x -> x.store(-1, 100));
        refused("too many, and full", BAD, Boundary::full, x -> x.store(0, 100));
        refused("too few, and full", BAD, Boundary::full, x -> x.store(0, 0));
    }

    private static StageYard sixWithoutStore() {
        StageYard x = new StageYard();
        for (int e = 0; e < 6; e++) x.engine(5, 5, 5, 5);
        return x;
    }

    private static void storeFull() {
        says(3, "FULL: more than 99.");
        StageYard x = oneEngine();
        due("98", x.store(0, 98), 98);
        due("two more would be 100", x.store(0, 2), FULL);
        due("99 would be 197", x.store(0, 99), FULL);
        due("just 99", x.store(0, 1), 99);
        due("100", x.store(0, 1), FULL);
        due("they are 99", x.count(3), 99);
        refused("one more", FULL, Boundary::full, y -> y.store(5, 1));
        refused("99 more", FULL, Boundary::full, y -> y.store(0, 99));
        x.set(0, 0);
        x.stage(0, 1, 0, 0);
        x.buy();
        due("one was taken, one may come", x.store(0, 1), 99);
    }

    private static void stageRanges() {
        says(4, "how many (1 .. 9)");
        range("many", 1, 9, BAD, Boundary::rich, (x, n) -> x.stage(0, n, 1, 1));
        says(4, "STUFF (0 .. 600)");
        range("stuff", 0, 600, BAD, Boundary::rich, (x, n) -> x.stage(0, 1, n, 1));
        says(4, "a FRAME (0 .. 99)");
        range("frame", 0, 99, BAD, Boundary::rich, (x, n) -> x.stage(0, 1, 1, n));
        StageYard x = oneEngine();
        x.stage(0, 1, 0, 0);
        x.stage(0, 9, 600, 99);
        int[] least = {0, 1, 0, 0, 1}, most = {0, 9, 600, 99, 9 + 60 + 99};
        for (int what = 0; what < 5; what++) {
            due("the least, what " + what, x.about(0, what), least[what]);
            due("the most, what " + what, x.about(1, what), most[what]);
        }
    }

    private static void stageOfNoEngine() {
        says(4, "A STAGE more, above all: how many. NONE; BAD; FULL.");
        range("engine", 0, 2, NONE, Boundary::rich, (x, e) -> x.stage(e, 1, 1, 1));
        refused("no engine, BAD many", NONE, Boundary::rich, x -> x.stage(3, 0, 1, 1));
        refused("no engine, BAD stuff", NONE, Boundary::rich, x -> x.stage(3, 1, 601, 1));
        refused("no engine, BAD frame", NONE, Boundary::rich, x -> x.stage(-1, 1, 1, 100));
        refused("no engine, and full", NONE, Boundary::full, x -> x.stage(6, 1, 1, 1));
        refused("BAD many, and full", BAD, Boundary::full, x -> x.stage(0, 10, 1, 1));
        refused("BAD stuff, and full", BAD, Boundary::full, x -> x.stage(0, 1, -1, 1));
        refused("BAD frame, and full", BAD, Boundary::full, x -> x.stage(0, 1, 1, -1));
    }

    private static void fourStages() {
        says(4, "stage 0 lowest (4 at most)");
        StageYard x = oneEngine();
        for (int k = 1; k <= 4; k++) due("stage more", x.stage(0, k, 0, 0), k);
        due("a fifth", x.stage(0, 5, 0, 0), FULL);
        due("there are four", x.count(1), 4);
        for (int k = 0; k < 4; k++) due("stage " + k + " has", x.about(k, 1), k + 1);
        refused("one too many", FULL, Boundary::full, y -> y.stage(0, 1, 1, 1));
        x.undo();
        due("room again", x.stage(0, 9, 0, 0), 4);
        due("it is the upper one", x.about(3, 1), 9);
    }

    private static void undoDownToNone() {
        says(5, "The upper STAGE goes: how many there are. STATE: there is none.");
        StageYard x = oneEngine();
        for (int k = 1; k <= 4; k++) x.stage(0, k, 0, 0);
        for (int k = 3; k >= 0; k--) {
            due("undo", x.undo(), k);
            due("the upper one went", x.about(k, 1), NONE);
            due("the one below is there", x.about(k - 1, 1), k == 0 ? NONE : k);
        }
        due("none is left", x.undo(), STATE);
        due("still none", x.undo(), STATE);
        due("none, not fewer", x.count(1), 0);
        due("the first again", x.stage(0, 7, 0, 0), 1);
        due("it is stage 0", x.about(0, 1), 7);
        refused("engines, but no stage", STATE, Boundary::oneEngine, y -> y.undo());
    }

    private static void stuffRange() {
        says(6, "STUFF of a STAGE: what it was. NONE; BAD.");
        range("n", 0, 600, BAD, Boundary::rich, (x, n) -> x.stuff(1, n));
        StageYard x = small();
        due("to the most", x.stuff(0, 600), 3);
        due("mass of the most: 1, 60 and 600", x.about(0, 5), 661);
        due("to the least", x.stuff(0, 0), 600);
        due("mass of the least", x.about(0, 5), 1);
        due("it was 0", x.stuff(0, 1), 0);
    }

    private static void stuffOfNoStage() {
        says(6, "STUFF of a STAGE: what it was. NONE; BAD.");
        range("stage", 0, 1, NONE, Boundary::rich, (x, k) -> x.stuff(k, 1));
        range("stage, all four", 0, 3, NONE, Boundary::full, (x, k) -> x.stuff(k, 1));
        refused("no stage, and too much", NONE, Boundary::rich, x -> x.stuff(2, 601));
        refused("no stage, and too little", NONE, Boundary::rich, x -> x.stuff(-1, -1));
        StageYard x = small();
        x.undo();
        due("one that went", x.stuff(0, 1), NONE);
    }

    private static void setRanges() {
        says(7, "a LOAD (0 .. 999; 10 at first)");
        range("load", 0, 999, BAD, Boundary::rich, (x, n) -> x.set(0, n));
        says(7, "TANKS weigh SHARE hundredths of what they are for (1 .. 50; 10 at first)");
        range("share", 1, 50, BAD, Boundary::rich, (x, n) -> x.set(1, n));
        says(7, "LEARN (50 .. 100; 90 at first)");
        range("learn", 50, 100, BAD, Boundary::rich, (x, n) -> x.set(2, n));
        int[] least = {0, 1, 50}, most = {999, 50, 100};
        StageYard x = new StageYard();
        for (int what = 0; what < 3; what++) {
            x.set(what, least[what]);
            due("it was the least", x.set(what, most[what]), least[what]);
            due("it was the most", x.set(what, least[what]), most[what]);
        }
    }

    private static void setOfNoWhat() {
        says(7, "what 0 LOAD, 1 SHARE, 2 LEARN: what it was. NONE; BAD.");
        range("what", 0, 2, NONE, Boundary::rich, (x, what) -> x.set(what, 50));
        refused("what 3, and BAD", NONE, Boundary::rich, x -> x.set(3, -1));
        refused("what -1, and BAD", NONE, Boundary::rich, x -> x.set(-1, MOST));
    }

    private static void aboutOfNone() {
        says(8, "5 MASS ahead of its first burn, 6 SPEED low, 7 high, 8 LIFT. NONE.");
        range("what", 0, 8, NONE, Boundary::rich, (x, what) -> x.about(1, what));
        range("stage", 0, 1, NONE, Boundary::rich, (x, k) -> x.about(k, 8));
        range("stage, all four", 0, 3, NONE, Boundary::full, (x, k) -> x.about(k, 5));
        refused("neither", NONE, Boundary::rich, x -> x.about(2, 9));
    }

    private static void tanksRoundedUp() {
        says(8, "TANKS weigh SHARE hundredths of what they are for (1 .. 50; 10 at first), rounded up.");
        int[][] cases = { // share, stuff, the tank
            {10, 0, 0}, {10, 1, 1}, {10, 10, 1}, {10, 11, 2}, {10, 600, 60},
            {1, 0, 0}, {1, 1, 1}, {1, 100, 1}, {1, 101, 2}, {1, 600, 6}, {1, 599, 6},
            {50, 0, 0}, {50, 1, 1}, {50, 2, 1}, {50, 3, 2}, {50, 600, 300}, {50, 599, 300}, {33, 3, 1}, {34, 3, 2}};
        for (int[] one : cases) {
            StageYard x = small();
            x.set(1, one[0]);
            x.stuff(0, one[1]);
            due("an engine of 1 and the tank for " + one[1] + " by " + one[0], x.about(0, 4), 1 + one[2]);
        }
    }

    private static void massAhead() {
        says(8, "MASS ahead of a burn of a STAGE: it, all above it, the LOAD, and what STUFF it has left.");
        StageYard x = oneEngine();
        x.set(0, 0);
        x.stage(0, 1, 1, 1);
        x.stage(0, 2, 10, 0);
        x.stage(0, 3, 0, 9);
        due("the upper one, without a load", x.about(2, 5), 3 + 9);
        due("the middle one", x.about(1, 5), 12 + 2 + 1 + 10);
        due("the lowest one", x.about(0, 5), 25 + 1 + 1 + 1 + 1);
        due("the whole rocket", x.count(5), 29);
        x.set(0, 999);
        due("the upper one, with the most load", x.about(2, 5), 12 + 999);
        due("the lowest one, with the most load", x.about(0, 5), 29 + 999);
    }

    private static void lowCutHighUp() {
        says(8, "each gives LOW: EXHAUST times 1000 by the MASS ahead of it, cut;");
        StageYard x = small();
        due("2000 by 5 and 4 just so, by 3 cut", x.about(0, 6), 400 + 500 + 666);
        says(8, "HIGH: EXHAUST times 1000 by the MASS behind it, rounded up.");
        due("2000 by 4 and 2 just so, by 3 up", x.about(0, 7), 500 + 667 + 1000);
        StageYard heavy = new StageYard();
        heavy.engine(1, 1, 1, 1);
        heavy.set(0, 998);
        heavy.stage(0, 1, 1, 0);
        due("1000 by 1001 is cut to 0", heavy.about(0, 6), 0);
        due("1000 by 1000 is 1", heavy.about(0, 7), 1);
        heavy.set(0, 999);
        due("1000 by 1001 rounded up is 1", heavy.about(0, 7), 1);
        heavy.set(0, 997);
        due("1000 by 1000 just so", heavy.about(0, 6), 1);
        due("1000 by 999 rounded up is 2", heavy.about(0, 7), 2);
    }

    private static void speedOfNothing() {
        says(9, "SPEED (low, high) of a STAGE: the sum of all; of the ROCKET: of all STAGES.");
        due("low of no stage", new StageYard().speed(0), 0);
        due("high of no stage", new StageYard().speed(1), 0);
        StageYard x = small();
        x.stuff(0, 0);
        due("low of a stage without stuff", x.about(0, 6), 0);
        due("high of a stage without stuff", x.about(0, 7), 0);
        due("low of no stuff", x.speed(0), 0);
        due("high of no stuff", x.speed(1), 0);
        x.stage(0, 1, 0, 0);
        x.stage(0, 1, 0, 0);
        x.stage(0, 1, 1, 0);
        due("low of the fourth alone, 2000 by 3", x.speed(0), 666);
        due("high of the fourth alone, 2000 by 2", x.speed(1), 1000);
        x.stuff(0, 1);
        due("low of the first, 2000 by 8, too", x.speed(0), 666 + 250);
        due("high of the first, 2000 by 7, too", x.speed(1), 1000 + 286);
    }

    private static void weightOfOne() {
        says(8, "(LOAD and DRY weigh 1 at least: engines do.)");
        StageYard x = new StageYard();
        x.engine(999, 999, 1, 1);
        x.set(0, 0);
        x.set(1, 1);
        due("no stage and no load weigh nothing", x.count(5), 0);
        x.stage(0, 1, 0, 0);
        due("dry", x.about(0, 4), 1);
        due("mass", x.about(0, 5), 1);
        due("lift by a mass of 1", x.about(0, 8), 99900);
        due("low", x.about(0, 6), 0);
        due("high", x.about(0, 7), 0);
        due("kept nothing of nothing", x.keeping(0, 0), 0);
        x.stuff(0, 1);
        due("999000 by 3", x.about(0, 6), 333000);
        due("999000 by 2", x.about(0, 7), 499500);
    }

    private static void liftCut() {
        says(8, "LIFT of a STAGE: hundredths of its THRUST together by the MASS ahead of its first burn, cut.");
        StageYard x = small();
        due("1000 by 5 just so", x.about(0, 8), 200);
        x.set(0, 1);
        due("1000 by 6 cut", x.about(0, 8), 166);
        x.set(0, 999);
        due("1000 by 1004 is cut to 0", x.about(0, 8), 0);
        x.set(0, 995);
        due("1000 by 1000 is 1", x.about(0, 8), 1);
        StageYard strong = new StageYard();
        strong.engine(999, 1, 1, 1);
        strong.set(0, 0);
        strong.stage(0, 9, 0, 0);
        due("nine of 999 by 9", strong.about(0, 8), 99900);
    }

    private static void speedOfNoWhat() {
        says(9, "SPEED of the ROCKET: low (0), high (1). NONE.");
        range("what", 0, 1, NONE, Boundary::rich, (x, what) -> x.speed(what));
        refused("what 2 of no stage", NONE, Boundary::fresh, x -> x.speed(2));
    }

    /** The sums at their largest wrap nowhere. */
    private static void heaviest() {
        says(8, "each of one ENGINE's kind, how many (1 .. 9), STUFF (0 .. 600) and a FRAME (0 .. 99)");
        StageYard x = new StageYard();
        x.engine(999, 999, 99, 9999);
        x.set(0, 999);
        x.set(1, 50);
        for (int k = 0; k < 4; k++) x.stage(0, 9, 600, 99);
        due("mass", x.count(5), 4 * (891 + 300 + 99 + 600) + 999);
        due("899100 by 8559", x.about(0, 8), 105);
        StageYard light = new StageYard();
        light.engine(999, 999, 1, 1);
        light.set(0, 0);
        light.set(1, 1);
        for (int k = 0; k < 4; k++) light.stage(0, 1, 600, 0);
        long low = 0, high = 0;
        for (int k = 0; k < 4; k++) {
            for (int n = 1; n <= 600; n++) {
                int mass = 607 * (3 - k) + 7 + n;
                low += 999000 / mass;
                high += (999000 + mass - 2) / (mass - 1);
            }
        }
        due("the greatest low", x.speed(0) < light.speed(0) ? light.speed(0) : -9, (int) low);
        due("the greatest high", light.speed(1), (int) high);
    }
}
