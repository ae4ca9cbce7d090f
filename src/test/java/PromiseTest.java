/**
 * The promises one by one, with answers reckoned by hand from the document: ordinary inputs, the
 * edges that it names, and wrong inputs. The number in front of a line is the promise's.
 */
public final class PromiseTest {
    private static final int NONE = -1, BAD = -2, STATE = -3, FULL = -4;
    private static final int LEAST = Integer.MIN_VALUE, MOST = Integer.MAX_VALUE;
    private static int wrong = 0;
    private static int asked = 0;

    private static void due(int promise, String what, int got, int want) {
        asked++;
        if (got != want) {
            wrong++;
            System.out.println("promise " + promise + ": " + what + " answered " + got + ", due is " + want);
        }
    }

    public static void main(String[] args) {
        newObject();
        engines();
        stores();
        stages();
        stuffAndSettings();
        abouts();
        splits();
        cheapests();
        air();
        limitsAndFlights();
        climbs();
        fallsAndEmptyStages();
        enginesOut();
        costs();
        purchases();
        reuse();
        year();
        counts();
        System.out.println(wrong == 0 ? asked + " answers are as due" : wrong + " answers are not as due");
        if (wrong != 0) System.exit(1);
    }

    /** One stage of one engine (thrust, exhaust 2, mass 1), STUFF 3, no frame, no load: MASS 5. */
    private static StageYard small(int thrust) {
        StageYard x = new StageYard();
        x.engine(thrust, 2, 1, 50);
        x.set(0, 0);
        x.stage(0, 1, 3, 0);
        return x;
    }

    private static void newObject() {
        StageYard x = new StageYard();
        for (int what = 0; what < 5; what++) due(1, "count " + what, x.count(what), 0);
        due(1, "count(5) is the load", x.count(5), 10);
        due(1, "speed(0)", x.speed(0), 0);
        due(1, "speed(1)", x.speed(1), 0);
        due(1, "lots(0)", x.lots(0), NONE);
        due(1, "chosen(0, 0)", x.chosen(0, 0), NONE);
        due(1, "flown(0)", x.flown(0), NONE);
        due(1, "stage(0, 1, 1, 1)", x.stage(0, 1, 1, 1), NONE);
        due(1, "about(0, 0)", x.about(0, 0), NONE);
        due(1, "year()", x.year(), 0);
        due(1, "flights()", x.flights(), 0);
        StageYard y = new StageYard();
        y.engine(1, 1, 1, 1);
        due(1, "another object's engine", x.count(0), 0);
    }

    private static void engines() {
        StageYard x = new StageYard();
        due(2, "thrust 0", x.engine(0, 1, 1, 1), BAD);
        due(2, "thrust 1000", x.engine(1000, 1, 1, 1), BAD);
        due(2, "exhaust 0", x.engine(1, 0, 1, 1), BAD);
        due(2, "exhaust 1000", x.engine(1, 1000, 1, 1), BAD);
        due(2, "mass 0", x.engine(1, 1, 0, 1), BAD);
        due(2, "mass 100", x.engine(1, 1, 100, 1), BAD);
        due(2, "cost 0", x.engine(1, 1, 1, 0), BAD);
        due(2, "cost 10000", x.engine(1, 1, 1, 10000), BAD);
        due(2, "far off", x.engine(LEAST, MOST, LEAST, MOST), BAD);
        due(2, "none was made", x.count(0), 0);
        due(2, "least", x.engine(1, 1, 1, 1), 0);
        due(2, "most", x.engine(999, 999, 99, 9999), 1);
        for (int e = 2; e < 6; e++) due(2, "engine " + e, x.engine(5, 5, 5, 5), e);
        due(2, "a seventh", x.engine(5, 5, 5, 5), FULL);
        due(2, "BAD is told ahead of FULL", x.engine(0, 5, 5, 5), BAD);
        due(2, "still six", x.count(0), 6);
    }

    private static void stores() {
        StageYard x = new StageYard();
        due(3, "no engine", x.store(0, 1), NONE);
        x.engine(1, 1, 1, 1);
        x.engine(1, 1, 1, 1);
        due(3, "engine -1", x.store(-1, 1), NONE);
        due(3, "engine 2", x.store(2, 1), NONE);
        due(3, "NONE is told ahead of BAD", x.store(2, 0), NONE);
        due(3, "0 of them", x.store(0, 0), BAD);
        due(3, "100 of them", x.store(0, 100), BAD);
        due(3, "very many", x.store(0, MOST), BAD);
        due(3, "one", x.store(0, 1), 1);
        due(3, "one too many", x.store(0, 99), FULL);
        due(3, "up to 99", x.store(0, 98), 99);
        due(3, "one more", x.store(0, 1), FULL);
        due(3, "the other engine's", x.store(1, 99), 99);
        due(3, "both", x.count(3), 198);
    }

    private static void stages() {
        StageYard x = new StageYard();
        x.engine(1, 1, 1, 1);
        due(4, "engine 1", x.stage(1, 1, 1, 1), NONE);
        due(4, "engine -1 ahead of BAD", x.stage(-1, 0, 1, 1), NONE);
        due(4, "many 0", x.stage(0, 0, 1, 1), BAD);
        due(4, "many 10", x.stage(0, 10, 1, 1), BAD);
        due(4, "stuff -1", x.stage(0, 1, -1, 1), BAD);
        due(4, "stuff 601", x.stage(0, 1, 601, 1), BAD);
        due(4, "frame -1", x.stage(0, 1, 1, -1), BAD);
        due(4, "frame 100", x.stage(0, 1, 1, 100), BAD);
        due(5, "none to undo", x.undo(), STATE);
        due(4, "least", x.stage(0, 1, 0, 0), 1);
        due(4, "most", x.stage(0, 9, 600, 99), 2);
        due(4, "third", x.stage(0, 2, 3, 4), 3);
        due(4, "fourth", x.stage(0, 3, 4, 5), 4);
        due(4, "fifth", x.stage(0, 3, 4, 5), FULL);
        due(4, "BAD ahead of FULL", x.stage(0, 0, 4, 5), BAD);
        due(5, "undo", x.undo(), 3);
        due(5, "the upper one went", x.about(3, 0), NONE);
        due(5, "the next stays", x.about(2, 1), 2);
        due(4, "above all", x.stage(0, 7, 4, 5), 4);
        due(4, "it is the upper one", x.about(3, 1), 7);
        due(4, "the lowest stays", x.about(0, 1), 1);
    }

    private static void stuffAndSettings() {
        StageYard x = small(10);
        due(6, "stage 1", x.stuff(1, 1), NONE);
        due(6, "stage -1 ahead of BAD", x.stuff(-1, -1), NONE);
        due(6, "-1", x.stuff(0, -1), BAD);
        due(6, "601", x.stuff(0, 601), BAD);
        due(6, "600", x.stuff(0, 600), 3);
        due(6, "0", x.stuff(0, 0), 600);
        due(6, "is 0", x.about(0, 2), 0);
        StageYard y = new StageYard();
        due(7, "what -1", y.set(-1, 10), NONE);
        due(7, "what 3 ahead of BAD", y.set(3, -1), NONE);
        due(7, "load -1", y.set(0, -1), BAD);
        due(7, "load 1000", y.set(0, 1000), BAD);
        due(7, "share 0", y.set(1, 0), BAD);
        due(7, "share 51", y.set(1, 51), BAD);
        due(7, "learn 49", y.set(2, 49), BAD);
        due(7, "learn 101", y.set(2, 101), BAD);
        due(7, "load 999", y.set(0, 999), 10);
        due(7, "load 0", y.set(0, 0), 999);
        due(7, "share 1", y.set(1, 1), 10);
        due(7, "share 50", y.set(1, 50), 1);
        due(7, "learn 50", y.set(2, 50), 90);
        due(7, "learn 100", y.set(2, 100), 50);
    }

    private static void abouts() {
        StageYard x = small(10);
        int[] want = {0, 1, 3, 0, 2, 5, 1566, 2167, 200};
        for (int what = 0; what < 9; what++) due(8, "what " + what, x.about(0, what), want[what]);
        due(8, "what -1", x.about(0, -1), NONE);
        due(8, "what 9", x.about(0, 9), NONE);
        due(8, "stage 1", x.about(1, 0), NONE);
        due(8, "stage far off", x.about(LEAST, 0), NONE);
        due(9, "low", x.speed(0), 1566);
        due(9, "high", x.speed(1), 2167);
        due(9, "what 2", x.speed(2), NONE);
        due(9, "what -1", x.speed(-1), NONE);
        // A stage without stuff above: MASS 6, and no speed of its own.
        x.stage(0, 1, 0, 0);
        due(8, "dry, without a tank", x.about(1, 4), 1);
        due(8, "mass with what is above", x.about(0, 5), 6);
        due(8, "low of no stuff", x.about(1, 6), 0);
        due(8, "high of no stuff", x.about(1, 7), 0);
        due(9, "2000 by 6, 5, 4", x.speed(0), 333 + 400 + 500);
        due(9, "2000 by 5, 4, 3", x.speed(1), 400 + 500 + 667);
        x.set(1, 50);
        x.stuff(1, 1);
        due(8, "a tank for 3 by halves is 2", x.about(0, 4), 3);
        due(8, "a tank for 1 by halves is 1", x.about(1, 4), 2);
        due(9, "both stages", x.speed(0), 222 + 250 + 285 + 666);
    }

    private static void splits() {
        StageYard x = new StageYard();
        due(10, "lots -1, ahead of STATE", x.split(-1, 1), BAD);
        due(10, "lots 21", x.split(21, 1), BAD);
        due(10, "size 0", x.split(1, 0), BAD);
        due(10, "size 31", x.split(1, 31), BAD);
        due(10, "no stage", x.split(1, 1), STATE);
        x.engine(10, 2, 1, 50);
        x.engine(10, 999, 1, 50);
        x.set(0, 0);
        x.stage(0, 1, 7, 0);
        x.stage(0, 1, 9, 0);
        due(11, "none yet", x.lots(0), NONE);
        due(10, "2000 by 3 beats 2000 by 4", x.split(1, 1), 666);
        due(11, "none below", x.lots(0), 0);
        due(11, "all above", x.lots(1), 1);
        due(11, "stage 2", x.lots(2), NONE);
        due(11, "stage -1", x.lots(-1), NONE);
        due(10, "stuff is as it was", x.about(0, 2), 7);
        due(10, "stuff above too", x.about(1, 2), 9);
        due(10, "no lots", x.split(0, 30), 0);
        due(11, "no lots", x.lots(1), 0);
        due(10, "20 lots of 30", x.split(20, 30) > 0 ? 1 : 0, 1);
        due(11, "they are all laid", x.lots(0) + x.lots(1), 20);
        x.undo();
        x.undo();
        x.stage(1, 1, 0, 0);
        x.stage(0, 1, 0, 0);
        due(10, "999000 by 4", x.split(1, 1), 249750);
        due(11, "it is below", x.lots(0), 1);
        due(11, "none above", x.lots(1), 0);
        due(10, "refused", x.split(30, 1), BAD);
        due(11, "what was split stays", x.lots(0), 1);
        // So heavy that nothing gains: all splits are as good, and the fewest are below.
        StageYard y = new StageYard();
        y.engine(1, 1, 1, 1);
        y.set(0, 999);
        for (int k = 0; k < 4; k++) y.stage(0, 1, 0, 0);
        due(10, "all as good", y.split(5, 2), 0);
        due(11, "stage 0", y.lots(0), 0);
        due(11, "stage 1", y.lots(1), 0);
        due(11, "stage 2", y.lots(2), 0);
        due(11, "stage 3", y.lots(3), 5);
    }

    private static void cheapests() {
        StageYard x = new StageYard();
        due(12, "speed -1, ahead of STATE", x.cheapest(-1, 0), BAD);
        due(12, "speed 1000001", x.cheapest(1000001, 0), BAD);
        due(12, "lift -1", x.cheapest(0, -1), BAD);
        due(12, "lift 1001", x.cheapest(0, 1001), BAD);
        due(12, "no engine", x.cheapest(0, 0), STATE);
        x.engine(10, 2, 1, 50);
        due(12, "no stage", x.cheapest(0, 0), STATE);
        x.engine(10, 4, 1, 50);
        x.set(0, 0);
        x.stage(0, 9, 3, 0);
        due(13, "none yet", x.chosen(0, 0), NONE);
        due(12, "the speed just so", x.cheapest(1566, 200), 50);
        due(13, "the lesser engine", x.chosen(0, 0), 0);
        due(13, "one", x.chosen(0, 1), 1);
        due(12, "one speed more", x.cheapest(1567, 0), 50);
        due(13, "the other engine", x.chosen(0, 0), 1);
        due(12, "a lift more", x.cheapest(0, 201), 100);
        due(13, "engine 0", x.chosen(0, 0), 0);
        due(13, "two", x.chosen(0, 1), 2);
        due(12, "three lift 428", x.cheapest(0, 428), 150);
        due(12, "not 429", x.cheapest(0, 429), -5);
        due(12, "not so fast", x.cheapest(1000000, 0), -5);
        due(12, "the most that can be asked", x.cheapest(1000000, 1000), -5);
        due(12, "refused", x.cheapest(0, 2000), BAD);
        due(13, "the latest that told a cost", x.chosen(0, 1), 3);
        due(13, "stage 1", x.chosen(1, 0), NONE);
        due(13, "stage -1", x.chosen(-1, 0), NONE);
        due(13, "what 2", x.chosen(0, 2), NONE);
        due(13, "what -1", x.chosen(0, -1), NONE);
        due(12, "the stage is as it was", x.about(0, 1), 9);
        x.stage(0, 1, 0, 0);
        x.stage(0, 1, 0, 0);
        due(12, "three stages", x.cheapest(0, 0), 150);
        due(13, "the third", x.chosen(2, 1), 1);
        x.stage(0, 1, 0, 0);
        due(12, "four stages", x.cheapest(0, 0), STATE);
        StageYard y = new StageYard();
        y.engine(10, 2, 1, 2);
        y.engine(999, 2, 1, 4);
        y.set(0, 0);
        y.stage(1, 1, 3, 0);
        due(12, "two of 2 or one of 4", y.cheapest(0, 201), 4);
        due(13, "the lesser engine ahead of the fewer", y.chosen(0, 0) * 10 + y.chosen(0, 1), 2);
        twoStageTie();
        fewerBelow();
        nineHeavyOnes();
    }

    private static void fewerBelow() {
        StageYard x = new StageYard();
        x.engine(17, 1, 1, 1);
        x.engine(16, 500, 10, 1);
        x.engine(11, 500, 1, 2);
        x.stage(0, 1, 10, 0);
        x.stage(0, 1, 10, 0);
        // Below engine 1 (MASS 31) two of engine 0 lift, below engine 2 (MASS 22) one: 3 both times.
        due(12, "two below a cheap one, one below a dear one", x.cheapest(5000, 50), 3);
        due(13, "below it is engine 0", x.chosen(0, 0), 0);
        due(13, "the fewer below", x.chosen(0, 1), 1);
        due(13, "engine 2 above", x.chosen(1, 0), 2);
        due(13, "one above", x.chosen(1, 1), 1);
    }

    /** The light engine lifts as well, but is too dear: both ends of what a search weighs. */
    private static void nineHeavyOnes() {
        StageYard x = new StageYard();
        x.engine(999, 999, 99, 2);
        x.engine(680, 999, 99, 1);
        x.engine(999, 1, 1, 9999);
        x.set(0, 999);
        x.stage(0, 3, 600, 0);
        x.stage(0, 3, 600, 0);
        x.stage(1, 3, 600, 0);
        due(9, "as fast as nine heavy engines", x.speed(0), 763632);
        due(12, "nine heavy engines", x.cheapest(763632, 74), 15);
        due(13, "the lowest", x.chosen(0, 0) * 10 + x.chosen(0, 1), 3);
        due(13, "the middle one", x.chosen(1, 0) * 10 + x.chosen(1, 1), 3);
        due(13, "the upper one", x.chosen(2, 0) * 10 + x.chosen(2, 1), 13);
        due(12, "a speed more", x.cheapest(763633, 74), 16);
        due(13, "the upper one is stronger", x.chosen(2, 0) * 10 + x.chosen(2, 1), 2);
    }

    private static void twoStageTie() {
        StageYard x = new StageYard();
        x.engine(10, 1, 1, 5);
        x.engine(10, 3, 1, 5);
        x.set(0, 0);
        x.stage(0, 1, 1, 0);
        x.stage(0, 1, 1, 0);
        // MASS ahead is 6 below and 3 above: 166 or 500, and 333 or 1000.
        due(12, "one good engine will do", x.cheapest(800, 0), 10);
        due(13, "the lesser one below", x.chosen(0, 0), 0);
        due(13, "the good one above", x.chosen(1, 0), 1);
        due(12, "both", x.cheapest(1500, 0), 10);
        due(13, "the good one below", x.chosen(0, 0), 1);
        due(12, "neither", x.cheapest(1501, 0), -5);
        x.store(0, 9);
        due(12, "what is in store costs as well", x.cheapest(800, 0), 10);
    }

    private static void air() {
        StageYard x = new StageYard();
        due(14, "layer -1", x.air(-1, 0), NONE);
        due(14, "layer 10 ahead of BAD", x.air(10, -1), NONE);
        due(14, "-1", x.air(0, -1), BAD);
        due(14, "1000", x.air(0, 1000), BAD);
        for (int k = 0; k < 10; k++) due(14, "layer " + k, x.air(k, 999 - k), 100 - 10 * k);
        due(14, "what was told", x.air(9, 0), 990);
        StageYard y = small(10);
        y.air(0, 50);
        due(16, "half the air", y.fly(), 0);
        due(14, "pace with half the air", y.flown(2), 377);
        due(14, "height with half the air", y.flown(1), 714);
    }

    private static void limitsAndFlights() {
        StageYard x = small(10);
        due(15, "what -1", x.limit(-1, 0), NONE);
        due(15, "what 3 ahead of BAD", x.limit(3, -1), NONE);
        for (int what = 0; what < 3; what++) {
            due(15, "-1", x.limit(what, -1), BAD);
            due(15, "1000001", x.limit(what, 1000001), BAD);
        }
        due(17, "no flight yet", x.flown(0), NONE);
        due(16, "a flight", x.fly(), 0);
        int[] want = {3, 614, 289, 506, 2, NONE, 1};
        for (int what = 0; what < 7; what++) due(17, "what " + what, x.flown(what), want[what]);
        due(17, "what -1", x.flown(-1), NONE);
        due(17, "what 7", x.flown(7), NONE);
        due(15, "loading at first", x.limit(0, 506), 1000000);
        due(16, "just so much loading", x.fly(), 0);
        due(15, "loading", x.limit(0, 505), 506);
        due(16, "too much loading", x.fly(), 1);
        due(17, "at tick 2", x.flown(5), 2);
        x.limit(0, 99);
        due(15, "height at first", x.limit(1, 1000000), 0);
        due(16, "loading is told first", x.fly(), 1);
        due(17, "at tick 1", x.flown(5), 1);
        due(17, "the flight goes on to its end", x.flown(0), 3);
        due(17, "the greatest is later", x.flown(4), 2);
        x.limit(0, 1000000);
        due(15, "pace at first", x.limit(2, 1000000), 0);
        due(16, "height ahead of pace", x.fly(), 2);
        due(17, "no break of loading", x.flown(5), NONE);
        x.limit(1, 614);
        due(16, "pace", x.fly(), 3);
        x.limit(1, 615);
        due(16, "one too low", x.fly(), 2);
        x.limit(1, 614);
        x.limit(2, 289);
        due(16, "just so fast", x.fly(), 0);
        x.limit(2, 290);
        due(16, "one too slow", x.fly(), 3);
        x.stuff(0, 0);
        due(16, "no stuff", x.fly(), STATE);
        due(17, "the latest flight stays", x.flown(1), 614);
        due(18, "no stuff", x.out(0), STATE);
        due(19, "no stuff", x.safe(), STATE);
        due(16, "no stage", new StageYard().fly(), STATE);
        due(16, "the rocket is whole behind a flight", x.about(0, 1), 1);
    }

    private static void climbs() {
        StageYard x = small(55);
        x.fly();
        due(16, "height 1000 is in layer 1", x.flown(3), 9000);
        due(16, "height", x.flown(1), 2781);
        due(16, "pace", x.flown(2), 1756);
        StageYard y = small(505);
        y.fly();
        due(16, "no air from 10000 on", y.flown(3), 0);
        due(17, "the first tick of the greatest", y.flown(4), 0);
        StageYard z = small(504);
        z.fly();
        due(16, "some air below that", z.flown(3), 99600);
        due(17, "at tick 1", z.flown(4), 1);
        due(16, "drag is added where pace is below 0", z.flown(2), 20136);
        due(16, "height", z.flown(1), 27696);
        StageYard fast = new StageYard();
        fast.engine(999, 1, 1, 1);
        fast.set(0, 0);
        fast.set(1, 1);
        fast.stage(0, 9, 27, 0);
        due(16, "a fast one", fast.fly(), 0);
        due(16, "ticks of nine engines", fast.flown(0), 3);
        due(16, "pace stays within", fast.flown(2), 100000);
        due(16, "height by that pace", fast.flown(1), 180410);
        StageYard slow = new StageYard();
        slow.engine(1, 1, 99, 1);
        for (int k = 0; k < 4; k++) slow.stage(0, 1, 600, 0);
        due(16, "one that stays down", slow.fly(), 0);
        due(16, "2000 ticks at most", slow.flown(0), 2000);
        due(17, "three of them fell off", slow.flown(6), 3);
        due(16, "on the ground", slow.flown(1) + slow.flown(2), 0);
    }

    private static void fallsAndEmptyStages() {
        StageYard x = new StageYard();
        x.engine(20, 1, 1, 1);
        x.engine(1, 1, 5, 1);
        x.set(0, 0);
        x.stage(0, 1, 1, 0);
        x.stage(1, 1, 1, 1);
        due(16, "pace below 0 is below a limit of 0", x.fly(), 3);
        due(16, "it comes down", x.flown(2), -14);
        due(16, "from 81", x.flown(1), 67);
        due(17, "both fell off", x.flown(6), 2);
        x.undo();
        x.stage(1, 1, 4, 0);
        due(16, "down on the ground", x.fly(), 0);
        due(17, "five ticks", x.flown(0), 5);
        due(17, "height", x.flown(1), 0);
        due(17, "pace", x.flown(2), 0);
        due(17, "loading", x.flown(3), 28);
        StageYard low = new StageYard();
        low.engine(10, 2, 1, 1);
        low.set(0, 0);
        low.stage(0, 4, 0, 50);
        low.stage(0, 1, 3, 0);
        due(16, "an empty stage is gone ahead of tick 0", low.fly(), 0);
        due(17, "as without it", low.flown(1), 614);
        due(17, "it fell off too", low.flown(6), 2);
        StageYard high = small(10);
        high.stage(0, 1, 0, 0);
        high.fly();
        due(17, "an empty stage on top weighs on", high.flown(0) * 10000 + high.flown(2), 30000 + 66 + 91 + 88);
        due(17, "it does not fall off", high.flown(6), 1);
    }

    private static void enginesOut() {
        StageYard x = small(10);
        due(18, "tick -1", x.out(-1), BAD);
        due(18, "tick 2000", x.out(2000), BAD);
        due(18, "BAD ahead of STATE", new StageYard().out(-1), BAD);
        due(18, "none flies on", x.out(0), 0);
        due(19, "no limits", x.safe(), 3);
        x.limit(1, 100);
        due(18, "it never left", x.out(0), 2);
        due(18, "one tick", x.out(1), 0);
        due(19, "two ticks", x.safe(), 2);
        x.limit(1, 326);
        due(18, "two ticks bring 325", x.out(2), 2);
        due(18, "behind the flight", x.out(3), 0);
        due(18, "far behind it", x.out(1999), 0);
        due(19, "none", x.safe(), 0);
        due(18, "flown() stays", x.flown(0), NONE);
        x.limit(1, 0);
        x.limit(2, 1);
        due(18, "no pace", x.out(0), 3);
        x.limit(2, 0);
        x.limit(0, 99);
        due(18, "out ahead of too much loading", x.out(1), 0);
        due(18, "out behind it", x.out(2), 1);
        due(19, "loading breaks", x.safe(), 2);
        StageYard two = new StageYard();
        two.engine(10, 2, 1, 1);
        two.set(0, 0);
        two.stage(0, 2, 3, 0);
        two.limit(1, 468);
        due(18, "one of two works on", two.out(0), 0);
        two.limit(1, 469);
        due(18, "up to 468", two.out(0), 2);
        two.limit(1, 480);
        due(16, "both bring 480", two.fly(), 0);
        due(18, "the last one of stuff needs one engine", two.out(1), 0);
        due(19, "tick 1 alone", two.safe(), 1);
        due(18, "flown() stays", two.flown(1), 480);
        StageYard stacked = small(10);
        stacked.stuff(0, 2);
        stacked.stage(0, 1, 1, 0);
        stacked.limit(1, 311);
        due(18, "the next stage burns in that tick", stacked.out(1), 0);
        due(18, "too early", stacked.out(0), 2);
        stacked.limit(1, 312);
        due(18, "not higher", stacked.out(1), 2);
        stacked.limit(1, 448);
        due(16, "all", stacked.fly(), 0);
        due(17, "three ticks", stacked.flown(0), 3);
        due(19, "none is safe", stacked.safe(), 0);
    }

    private static void costs() {
        StageYard x = new StageYard();
        due(20, "no engine", x.cost(0, 0), NONE);
        x.engine(1, 1, 1, 100);
        due(20, "engine -1 ahead of BAD", x.cost(-1, -1), NONE);
        due(20, "i -1", x.cost(0, -1), BAD);
        due(20, "i 1000", x.cost(0, 1000), BAD);
        int[] want = {100, 90, 81, 72, 64, 57, 51, 45};
        for (int i = 0; i < want.length; i++) due(20, "i " + i, x.cost(0, i), want[i]);
        due(20, "1 at least", x.cost(0, 999), 1);
        x.set(2, 50);
        due(20, "25", x.cost(0, 2), 25);
        due(20, "12", x.cost(0, 3), 12);
        due(20, "1", x.cost(0, 6), 1);
        due(20, "1, not 0", x.cost(0, 7), 1);
        x.set(2, 100);
        due(20, "nothing learned", x.cost(0, 999), 100);
    }

    private static void purchases() {
        StageYard x = new StageYard();
        due(21, "no stage", x.price(), STATE);
        due(22, "no stage", x.buy(), STATE);
        x.engine(1, 1, 1, 100);
        x.engine(1, 1, 1, 7);
        x.stage(0, 2, 0, 5);
        due(21, "no tank without stuff", x.price(), 100 + 90 + 5);
        x.stage(0, 1, 1, 0);
        due(21, "the third is of the same kind", x.price(), 100 + 90 + 81 + 5 + 10);
        x.set(1, 50);
        due(21, "a tank by its share", x.price(), 100 + 90 + 81 + 5 + 50);
        x.store(0, 1);
        x.store(1, 5);
        due(21, "one from store", x.price(), 100 + 90 + 55);
        due(22, "bought", x.buy(), 100 + 90 + 55);
        due(22, "store of the other kind stays", x.count(3), 5);
        due(22, "two were bought", x.count(4), 2);
        due(21, "three more", x.price(), 81 + 72 + 64 + 55);
        due(21, "price() buys nothing", x.count(4), 2);
        x.store(0, 9);
        due(22, "all from store", x.buy(), 55);
        due(22, "six are left", x.count(3), 11);
        due(20, "cost() goes by i alone", x.cost(0, 0), 100);
        StageYard many = new StageYard();
        many.engine(1, 1, 1, 1000);
        many.engine(1, 1, 1, 1000);
        many.set(2, 100);
        for (int k = 0; k < 4; k++) many.stage(0, 9, 0, 0);
        for (int n = 1; n <= 25; n++) due(22, "buy " + n, many.buy(), 36000);
        due(22, "900 in all", many.count(4), 900);
        due(22, "more than 900", many.buy(), FULL);
        due(22, "nothing changed", many.count(4), 900);
        due(21, "a price all the same", many.price(), 36000);
        many.store(0, 36);
        due(22, "from store they come", many.buy(), 0);
        many.store(0, 35);
        due(22, "one too many", many.buy(), FULL);
        due(22, "store stays", many.count(3), 35);
        for (int k = 0; k < 4; k++) many.undo();
        many.stage(1, 1, 0, 0);
        due(22, "the other kind", many.buy(), 1000);
    }

    private static void reuse() {
        StageYard x = small(10);
        due(23, "stage 1", x.keeping(1, 0), NONE);
        due(23, "stage -1 ahead of BAD", x.keeping(-1, -1), NONE);
        due(23, "-1", x.keeping(0, -1), BAD);
        due(23, "above its stuff", x.keeping(0, 4), BAD);
        due(23, "nothing kept", x.keeping(0, 0), 1566);
        due(23, "one kept", x.keeping(0, 1), 400 + 500);
        due(23, "all kept", x.keeping(0, 3), 0);
        x.stuff(0, 600);
        due(23, "100", x.keeping(0, 100) > 0 ? 1 : 0, 1);
        due(23, "101", x.keeping(0, 101), BAD);
        StageYard y = new StageYard();
        y.engine(1, 1, 1, 50);
        y.engine(1, 1, 1, 1);
        y.stage(0, 2, 0, 0);
        y.stage(1, 1, 0, 0);
        due(24, "stage 2", y.even(2, 0, 0), NONE);
        due(24, "stage -1 ahead of BAD", y.even(-1, -1, 0), NONE);
        due(24, "mend -1", y.even(0, -1, 0), BAD);
        due(24, "mend 201", y.even(0, 201, 0), BAD);
        due(24, "gear -1", y.even(0, 0, -1), BAD);
        due(24, "gear 100000", y.even(0, 0, 100000), BAD);
        due(24, "at once", y.even(0, 0, 0), 2);
        due(24, "gear of one flight", y.even(0, 0, 100), 3);
        due(24, "mend 99", y.even(0, 99, 0), 2);
        due(24, "100 flights", y.even(0, 99, 98), 100);
        due(24, "101 would be needed", y.even(0, 99, 99), -5);
        due(24, "mend 100", y.even(0, 100, 0), -5);
        due(24, "mend 200", y.even(0, 200, 99999), -5);
        due(24, "hundredths count", y.even(1, 99, 1), -5);
        due(24, "half of 1", y.even(1, 50, 1), 4);
        y.set(2, 50);
        y.store(0, 9);
        due(24, "the first price, learned or stored", y.even(0, 0, 100), 3);
    }

    private static void year() {
        StageYard x = new StageYard();
        due(25, "a -1", x.flight(-1, 0, 0, 0, 0), BAD);
        due(25, "a 10", x.flight(10, 0, 0, 0, 0), BAD);
        due(25, "b -1", x.flight(0, -1, 0, 0, 0), BAD);
        due(25, "b 10", x.flight(0, 10, 0, 0, 0), BAD);
        due(25, "c -1", x.flight(0, 0, -1, 0, 0), BAD);
        due(25, "c 10", x.flight(0, 0, 10, 0, 0), BAD);
        due(25, "end -1", x.flight(0, 0, 0, -1, 0), BAD);
        due(25, "end 12", x.flight(0, 0, 0, 12, 0), BAD);
        due(25, "worth -1", x.flight(0, 0, 0, 0, -1), BAD);
        due(25, "worth 1000", x.flight(0, 0, 0, 0, 1000), BAD);
        due(25, "none was made", x.count(2), 0);
        due(26, "engine -1", x.deliver(-1, 0, 0), NONE);
        due(26, "engine 3", x.deliver(3, 0, 0), NONE);
        due(26, "month -1", x.deliver(0, -1, 0), NONE);
        due(26, "month 12 ahead of BAD", x.deliver(0, 12, -1), NONE);
        due(26, "-1", x.deliver(0, 0, -1), BAD);
        due(26, "10", x.deliver(0, 0, 10), BAD);
        due(26, "2 in month 0", x.deliver(0, 0, 2), 0);
        due(26, "9 in month 11", x.deliver(2, 11, 9), 0);
        due(26, "what it was", x.deliver(2, 11, 0), 9);
        due(25, "the later one", x.flight(2, 0, 0, 5, 9), 0);
        due(25, "the one ahead", x.flight(1, 0, 0, 2, 3), 1);
        due(27, "not both", x.year(), 9);
        due(28, "the later one", x.flights(), 1);
        x.deliver(0, 3, 1);
        due(27, "one more comes in time", x.year(), 12);
        due(28, "both", x.flights(), 3);
        x.deliver(0, 3, 0);
        x.deliver(0, 5, 1);
        due(27, "in the month itself", x.year(), 12);
        x.deliver(0, 5, 0);
        x.deliver(0, 6, 1);
        due(27, "too late", x.year(), 9);
        due(25, "as much worth", x.flight(0, 0, 0, 0, 0), 2);
        due(28, "the least as bits", x.flights(), 1);
        due(25, "other kinds", x.flight(0, 1, 1, 11, 1), 3);
        due(27, "they are missing", x.year(), 9);
        x.deliver(1, 11, 1);
        due(27, "one is missing", x.year(), 9);
        x.deliver(2, 11, 1);
        due(27, "both are there", x.year(), 10);
        due(28, "bits 0 and 3", x.flights(), 9);
        yearTies();
    }

    private static void yearTies() {
        StageYard x = new StageYard();
        x.deliver(0, 0, 1);
        x.flight(1, 0, 0, 4, 5);
        x.flight(1, 0, 0, 1, 5);
        due(28, "the lesser bit", x.flights(), 1);
        x.deliver(0, 0, 2);
        due(27, "both", x.year(), 10);
        x.flight(2, 0, 0, 0, 10);
        due(28, "3 is less than 4", x.flights(), 3);
        due(27, "as much", x.year(), 10);
        for (int f = 3; f < 10; f++) due(25, "flight " + f, x.flight(0, 0, 0, 11, 999), f);
        due(25, "an eleventh", x.flight(0, 0, 0, 11, 999), FULL);
        due(25, "BAD ahead of FULL", x.flight(0, 0, 0, 12, 999), BAD);
        due(25, "nine of each", new StageYard().flight(9, 9, 9, 11, 999), 0);
        due(27, "seven of 999", x.year(), 10 + 7 * 999);
        due(28, "bits 3 to 9", x.flights(), 3 + 1016);
        due(27, "asked again", x.year(), 10 + 7 * 999);
    }

    private static void counts() {
        StageYard x = small(10);
        x.engine(1, 1, 1, 1);
        x.stage(1, 2, 0, 4);
        x.store(0, 3);
        x.store(1, 1);
        x.flight(0, 0, 0, 0, 0);
        due(29, "engines", x.count(0), 2);
        due(29, "stages", x.count(1), 2);
        due(29, "flights", x.count(2), 1);
        due(29, "in store", x.count(3), 4);
        due(29, "bought", x.count(4), 0);
        due(29, "mass", x.count(5), 5 + 6);
        x.set(0, 999);
        due(29, "mass with the load", x.count(5), 5 + 6 + 999);
        x.buy();
        due(29, "two are left", x.count(3), 2);
        due(29, "one was bought", x.count(4), 1);
        due(29, "what -1", x.count(-1), NONE);
        due(29, "what 6", x.count(6), NONE);
    }
}
