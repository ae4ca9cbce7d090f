/** Promises 20 to 24, the sentences that name a boundary case: costs, purchases and reuse. */
public final class BoundaryCostTest extends Boundary {
    public static void main(String[] args) {
        costRanges();
        costCut();
        costOfOneAtLeast();
        leastAndMostLearned();
        priceWithoutStage();
        buyWithoutStage();
        storeRunsOut();
        framesAndTanks();
        nineHundred();
        nineHundredOfAKind();
        keepRanges();
        keepOfItsStuff();
        keptWeighsOn();
        evenRanges();
        evenExactly();
        evenOfHundredths();
        evenNever();
        end();
    }

    /** One engine of that COST, nothing learned. */
    private static StageYard flat(int cost) {
        StageYard x = new StageYard();
        x.engine(1, 1, 1, cost);
        x.set(2, 100);
        return x;
    }

    // ---- cost

    private static void costRanges() {
        says(20, "COST of the i-th ENGINE of a kind. NONE; BAD: i not 0 .. 999.");
        range("i", 0, 999, BAD, Boundary::rich, (x, i) -> x.cost(2, i));
        range("engine", 0, 2, NONE, Boundary::rich, (x, e) -> x.cost(e, 0));
        range("engine, all six", 0, 5, NONE, Boundary::full, (x, e) -> x.cost(e, 999));
        refused("no engine, and BAD", NONE, Boundary::rich, x -> x.cost(3, 1000));
        refused("no engine, and BAD", NONE, Boundary::rich, x -> x.cost(-1, -1));
    }

    private static void costCut() {
        says(20, "COST times LEARN (50 .. 100; 90 at first) hundredths i times (each time cut)");
        StageYard x = new StageYard();
        x.engine(1, 1, 1, 9999);
        x.engine(1, 1, 1, 99);
        int[] dear = {9999, 8999, 8099, 7289, 6560}, cheap = {99, 89, 80, 72, 64};
        for (int i = 0; i < dear.length; i++) {
            due("9999, i " + i, x.cost(0, i), dear[i]);
            due("99, i " + i, x.cost(1, i), cheap[i]);
        }
    }

    private static void costOfOneAtLeast() {
        says(20, "1 at least.");
        StageYard x = new StageYard();
        x.engine(1, 1, 1, 1);
        x.engine(1, 1, 1, 2);
        x.engine(1, 1, 1, 9999);
        for (int e = 0; e < 3; e++) due("the last of engine " + e, x.cost(e, 999), 1);
        due("1 is the first", x.cost(0, 0), 1);
        due("0.9 is 1 at least", x.cost(0, 1), 1);
        due("1.8 is cut", x.cost(1, 1), 1);
        due("from there on too", x.cost(1, 2), 1);
        x.stage(0, 9, 0, 0);
        due("nine of 1", x.price(), 9);
    }

    private static void leastAndMostLearned() {
        says(20, "LEARN (50 .. 100; 90 at first)");
        StageYard x = new StageYard();
        x.engine(1, 1, 1, 9999);
        x.set(2, 50);
        int[] want = {9999, 4999, 2499, 1249, 624, 312, 156, 78, 39, 19, 9, 4, 2, 1, 1};
        for (int i = 0; i < want.length; i++) due("by halves, i " + i, x.cost(0, i), want[i]);
        x.set(2, 100);
        due("nothing learned, the first", x.cost(0, 0), 9999);
        due("nothing learned, the last", x.cost(0, 999), 9999);
        x.set(2, 99);
        due("a little, the second", x.cost(0, 1), 9899);
    }

    // ---- price, buy

    private static void priceWithoutStage() {
        says(21, "What the ROCKET would cost, BOUGHT now. STATE: there is no STAGE.");
        refused("no engine", STATE, Boundary::fresh, x -> x.price());
        refused("no stage", STATE, Boundary::oneEngine, x -> x.price());
        StageYard x = flat(5);
        x.stage(0, 1, 0, 0);
        due("one stage", x.price(), 5);
        due("nothing is bought by it", x.count(4), 0);
        x.undo();
        due("it went", x.price(), STATE);
    }

    private static void buyWithoutStage() {
        says(22, "It is BOUGHT: what it costs. STATE: there is no STAGE;");
        refused("no engine", STATE, Boundary::fresh, x -> x.buy());
        refused("no stage", STATE, Boundary::oneEngine, x -> x.buy());
        StageYard x = flat(5);
        x.stage(0, 1, 0, 0);
        due("one stage", x.buy(), 5);
        due("one is bought by it", x.count(4), 1);
        x.undo();
        due("it went", x.buy(), STATE);
        due("one still", x.count(4), 1);
    }

    private static void storeRunsOut() {
        says(22, "A ROCKET that is BOUGHT takes its ENGINES from STORE, as long as there are some of a kind; the others are bought at their COST;");
        StageYard x = new StageYard();
        x.engine(1, 1, 1, 100);
        x.engine(1, 1, 1, 1000);
        x.stage(0, 2, 0, 0);
        x.stage(0, 1, 0, 0);
        x.store(1, 99);
        x.store(0, 2);
        due("two of three from store", x.price(), 100);
        due("two of three from store", x.buy(), 100);
        due("the store of another kind stays", x.count(3), 99);
        due("one was bought", x.count(4), 1);
        x.store(0, 3);
        due("all three from store", x.price(), 0);
        due("all three from store", x.buy(), 0);
        due("none is left", x.count(3), 99);
        due("none was bought", x.count(4), 1);
        x.store(0, 4);
        due("one more than it takes", x.buy(), 0);
        due("one is left", x.store(0, 1), 2);
        x.undo();
        due("both from store", x.buy(), 0);
        due("none from store: the second and the third", x.buy(), 90 + 81);
        due("three were bought", x.count(4), 3);
        due("the fourth and the fifth", x.price(), 72 + 64);
    }

    private static void framesAndTanks() {
        says(21, "a FRAME costs its number, TANKS 1 for each hundredth of SHARE (of each STAGE with STUFF).");
        StageYard x = flat(1);
        x.stage(0, 1, 0, 0);
        due("no frame, no tank", x.price(), 1);
        x.stage(0, 1, 0, 99);
        due("the most frame, no tank", x.price(), 2 + 99);
        x.stuff(0, 1);
        due("a tank for 1", x.price(), 101 + 10);
        x.stuff(0, 600);
        due("a tank for 600", x.price(), 101 + 10);
        x.set(1, 1);
        due("the least share", x.price(), 101 + 1);
        x.set(1, 50);
        due("the most share", x.price(), 101 + 50);
        x.stuff(1, 600);
        due("two tanks", x.price(), 101 + 100);
        due("so it is bought", x.buy(), 101 + 100);
    }

    private static StageYard nineHundredBought() {
        StageYard x = flat(1000);
        x.engine(1, 1, 1, 7);
        for (int k = 0; k < 4; k++) x.stage(0, 9, 0, 0);
        for (int n = 0; n < 25; n++) x.buy();
        return x;
    }

    private static void nineHundred() {
        says(22, "FULL: more than 900 ENGINES of a kind would have been bought in all.");
        StageYard x = nineHundredBought();
        due("just 900", x.count(4), 900);
        refused("36 more", FULL, BoundaryCostTest::nineHundredBought, y -> y.buy());
        refused("one more", FULL, BoundaryCostTest::oneTooMany, y -> y.buy());
        due("a price all the same", x.price(), 36000);
        x.store(0, 35);
        due("35 from store, one too many", x.buy(), FULL);
        due("the store stays", x.count(3), 35);
        x.store(0, 1);
        due("all from store", x.buy(), 0);
        due("900 still", x.count(4), 900);
        for (int k = 0; k < 4; k++) x.undo();
        due("no stage goes ahead of full", x.buy(), STATE);
    }

    private static StageYard oneTooMany() {
        StageYard x = nineHundredBought();
        for (int k = 0; k < 4; k++) x.undo();
        x.stage(1, 1, 0, 0);
        x.stage(0, 1, 0, 0);
        x.store(1, 3);
        return x;
    }

    private static void nineHundredOfAKind() {
        says(22, "more than 900 ENGINES of a kind");
        StageYard x = nineHundredBought();
        for (int k = 0; k < 4; k++) x.undo();
        x.stage(1, 9, 0, 0);
        due("another kind", x.buy(), 63);
        due("909 of both kinds", x.count(4), 909);
        StageYard y = flat(1);
        for (int k = 0; k < 4; k++) y.stage(0, 9, 0, 0);
        for (int n = 0; n < 24; n++) y.buy();
        y.undo();
        due("27 more", y.buy(), 27);
        due("891", y.count(4), 891);
        due("918 would be too many", y.buy(), FULL);
        y.undo();
        y.undo();
        due("nine more are just 900", y.buy(), 9);
        due("900", y.count(4), 900);
        due("909 would be too many", y.buy(), FULL);
    }

    // ---- reuse

    private static void keepRanges() {
        says(23, "SPEED low of a STAGE with KEEP of its STUFF kept (the last of it). NONE; BAD: above its STUFF, or not 0 .. 100.");
        range("keep of 600", 0, 100, BAD, BoundaryCostTest::muchStuff, (x, n) -> x.keeping(0, n));
        range("keep of 20", 0, 20, BAD, Boundary::rich, (x, n) -> x.keeping(1, n));
        range("stage", 0, 1, NONE, Boundary::rich, (x, k) -> x.keeping(k, 1));
        range("stage, all four", 0, 3, NONE, Boundary::full, (x, k) -> x.keeping(k, 1));
        refused("no stage, and BAD", NONE, Boundary::rich, x -> x.keeping(2, 101));
        refused("no stage, and BAD", NONE, Boundary::rich, x -> x.keeping(-1, -1));
    }

    private static StageYard muchStuff() {
        StageYard x = small();
        x.stuff(0, 600);
        return x;
    }

    private static void keepOfItsStuff() {
        says(23, "BAD: above its STUFF");
        int[] all = {0, 1, 99, 100};
        for (int n : all) {
            StageYard x = small();
            x.stuff(0, n);
            due("all of " + n, x.keeping(0, n), 0);
            due("one more than " + n, x.keeping(0, n + 1), BAD);
        }
        StageYard x = small();
        x.stuff(0, 101);
        // MASS 113 ahead: the one that is not kept.
        due("all but one of 101", x.keeping(0, 100), 2000 / 113);
        due("all of 101", x.keeping(0, 101), BAD);
    }

    private static void keptWeighsOn() {
        says(23, "(SPEED without them; at HIGH MASS: they weigh on)");
        StageYard x = small();
        due("none kept: 2000 by 5, 4, 3", x.keeping(0, 0), x.about(0, 6));
        due("one kept: 2000 by 5, 4", x.keeping(0, 1), 900);
        due("two kept: 2000 by 5", x.keeping(0, 2), 400);
        due("all kept", x.keeping(0, 3), 0);
        due("the stuff is as it was", x.about(0, 2), 3);
        due("the speed is as it was", x.speed(0), 1566);
    }

    private static void evenRanges() {
        says(24, "BREAK EVEN of a STAGE by MEND (0 .. 200) and GEAR (0 .. 99999). NONE; BAD; -5: there is none.");
        range("mend", 0, 200, BAD, Boundary::rich, (x, n) -> x.even(0, n, 0));
        range("gear", 0, 99999, BAD, Boundary::rich, (x, n) -> x.even(0, 0, n));
        range("stage", 0, 1, NONE, Boundary::rich, (x, k) -> x.even(k, 0, 0));
        refused("no stage, BAD mend", NONE, Boundary::rich, x -> x.even(2, 201, 0));
        refused("no stage, BAD gear", NONE, Boundary::rich, x -> x.even(-1, 0, -1));
        refused("both", BAD, Boundary::rich, x -> x.even(0, -1, 100000));
    }

    /** One stage of so many engines of a COST, for even(0, ..). */
    private static StageYard stageOf(int many, int cost) {
        StageYard x = new StageYard();
        x.engine(1, 1, 1, cost);
        x.stage(0, many, 0, 99);
        return x;
    }

    private static void evenExactly() {
        says(24, "cost less together (exactly) than f times these ENGINES.");
        StageYard x = stageOf(2, 50);
        due("one flight is never less", x.even(0, 0, 0), 2);
        due("99 is less than a flight", x.even(0, 0, 99), 2);
        due("100 is just as much", x.even(0, 0, 100), 3);
        due("199", x.even(0, 0, 199), 3);
        due("200", x.even(0, 0, 200), 4);
        StageYard most = stageOf(9, 9999);
        due("the most gear by the dearest", most.even(0, 0, 99999), 3);
        // 99 flights save a hundredth of 89991 each: 89091.09 in all.
        due("mended for 99 hundredths", most.even(0, 99, 89091), 100);
        due("a little more", most.even(0, 99, 89092), NO_WAY);
    }

    private static void evenOfHundredths() {
        says(24, "and f - 1 times MEND hundredths of these ENGINES' price cost less together (exactly)");
        StageYard one = stageOf(1, 1);
        due("99 hundredths of 1", one.even(0, 99, 0), 2);
        due("half of 1, with a gear of 1", one.even(0, 50, 1), 4);
        due("1 hundredth of 1, with a gear of 1", one.even(0, 1, 1), 3);
        due("98 hundredths, with a gear of 1", one.even(0, 98, 1), 52);
        due("99 hundredths, with a gear of 1", one.even(0, 99, 1), NO_WAY);
        StageYard learned = stageOf(2, 50);
        learned.set(2, 50);
        learned.store(0, 9);
        learned.buy();
        due("by the first price", learned.even(0, 0, 100), 3);
    }

    private static void evenNever() {
        says(24, "BREAK EVEN: the least number of flights f (1 .. 100)");
        StageYard x = stageOf(2, 50);
        due("just at 100", x.even(0, 0, 9899), 100);
        due("at 101 it would", x.even(0, 0, 9900), NO_WAY);
        due("mend of 99, just at 100", x.even(0, 99, 98), 100);
        due("mend of 99, at 101 it would", x.even(0, 99, 99), NO_WAY);
        due("mend of 100", x.even(0, 100, 0), NO_WAY);
        due("mend of 101", x.even(0, 101, 0), NO_WAY);
        due("the most of both", x.even(0, 200, 99999), NO_WAY);
        due("the most gear by the least price", stageOf(1, 1).even(0, 0, 99999), NO_WAY);
        due("a gear of 98 by a price of 1", stageOf(1, 1).even(0, 0, 98), 100);
        due("a gear of 99 by a price of 1", stageOf(1, 1).even(0, 0, 99), NO_WAY);
    }
}
