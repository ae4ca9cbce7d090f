/** Promises 10 to 13, the sentences that name a boundary case: the best split, the cheapest engines. */
public final class BoundarySearchTest extends Boundary {
    public static void main(String[] args) {
        splitRanges();
        splitOfNothing();
        splitOfAll();
        splitWithoutStage();
        splitTies();
        splitByAllWays();
        splitLeavesStuff();
        lotsOfNone();
        lotsOfTheLatest();
        cheapestRanges();
        cheapestStates();
        cheapestThreeStages();
        cheapestNoneFound();
        speedJustSo();
        liftJustSo();
        upToThreeEngines();
        cheapestTies();
        cheapestByAllChoices();
        chosenOfNone();
        chosenOfTheLatest();
        end();
    }

    /** The first stages of a yard with the small engine and no LOAD, each without STUFF and FRAME. */
    private static StageYard bare(int stages) {
        StageYard x = oneEngine();
        x.set(0, 0);
        for (int k = 0; k < stages; k++) x.stage(0, 1, 0, 0);
        return x;
    }

    // ---- split, lots

    private static void splitRanges() {
        says(10, "THE SPLIT of so many LOTS (0 .. 20) of a size (1 .. 30) over the STAGES");
        range("lots", 0, 20, BAD, Boundary::rich, (x, n) -> x.split(n, 1));
        range("size", 1, 30, BAD, Boundary::rich, (x, n) -> x.split(1, n));
        refused("both", BAD, Boundary::rich, x -> x.split(21, 0));
        refused("a size of 0 for no lots", BAD, Boundary::rich, x -> x.split(0, 0));
    }

    private static void splitOfNothing() {
        says(10, "STUFF of each STAGE becomes some LOTS");
        StageYard x = rich();
        due("no lots of 1", x.split(0, 1), 0);
        due("no lots of 30", x.split(0, 30), 0);
        due("none below", x.lots(0), 0);
        due("none above", x.lots(1), 0);
        StageYard one = bare(1);
        due("one lot of 1: 2000 by 3", one.split(1, 1), 666);
        due("it is laid", one.lots(0), 1);
    }

    private static void splitOfAll() {
        says(10, "THE SPLIT: LOW of the ROCKET by it");
        StageYard x = bare(1);
        int most = x.split(20, 30);
        due("20 lots in the only stage", x.lots(0), 20);
        x.stuff(0, 600);
        due("as fast as with 600", most, x.speed(0));
        StageYard four = bare(4);
        int best = four.split(20, 30);
        int sum = 0;
        for (int k = 0; k < 4; k++) sum += four.lots(k);
        due("all lots are laid on four", sum, 20);
        for (int k = 0; k < 4; k++) four.stuff(k, 30 * four.lots(k));
        due("as fast as with that stuff", four.speed(0), best);
        StageYard below = new StageYard();
        below.engine(10, 999, 1, 1);
        below.engine(10, 1, 1, 1);
        below.stage(0, 1, 0, 0);
        below.stage(1, 1, 0, 0);
        due("20 lots: the lower engine is the good one", below.split(20, 30) > 0 ? below.lots(0) : NONE, 20);
        due("none above", below.lots(1), 0);
    }

    private static void splitWithoutStage() {
        says(10, "BAD; STATE: there is no STAGE.");
        refused("no stage, no engine", STATE, Boundary::fresh, x -> x.split(1, 1));
        refused("no stage, an engine", STATE, Boundary::oneEngine, x -> x.split(0, 1));
        refused("BAD lots, and no stage", BAD, Boundary::fresh, x -> x.split(-1, 1));
        refused("BAD size, and no stage", BAD, Boundary::oneEngine, x -> x.split(1, 31));
        StageYard x = bare(1);
        x.undo();
        due("the stage went", x.split(1, 1), STATE);
    }

    private static void splitTies() {
        says(10, "of several the one with the fewest LOTS in STAGE 0, then in STAGE 1, and so on.");
        // So heavy that nothing gains anything: all splits are as good.
        for (int stages = 1; stages <= 4; stages++) {
            StageYard x = new StageYard();
            x.engine(1, 1, 1, 1);
            x.set(0, 999);
            for (int k = 0; k < stages; k++) x.stage(0, 1, 0, 0);
            due("nothing gained", x.split(20, 1), 0);
            for (int k = 0; k < stages; k++) {
                due("of " + stages + " stage " + k, x.lots(k), k == stages - 1 ? 20 : 0);
            }
        }
        // Stage 0 alone gains (999000 by 1005 or more), with all it gets; so the lots of the others are few.
        StageYard x = new StageYard();
        x.engine(1, 999, 1, 1);
        x.engine(1, 1, 1, 1);
        x.set(0, 999);
        x.stage(0, 1, 0, 0);
        x.stage(1, 1, 0, 0);
        x.stage(1, 1, 0, 0);
        due("999000 by 1004 is 995", x.split(1, 1), 995);
        due("in stage 0", x.lots(0) * 100 + x.lots(1) * 10 + x.lots(2), 100);
    }

    /** A rocket as numbers: LOAD, SHARE, and of each stage the exhaust, the engines' MASS and the FRAME. */
    private static StageYard told(int load, int share, int[][] stages) {
        StageYard x = new StageYard();
        x.set(0, load);
        x.set(1, share);
        for (int k = 0; k < stages.length; k++) {
            x.engine(100, stages[k][0], stages[k][1], 1);
            x.stage(k, 1, 0, stages[k][2]);
        }
        return x;
    }

    /** At the ends of LOTS, size and SHARE, where each tank is rounded up by itself. */
    private static void splitByAllWays() {
        says(10, "such that LOW of the ROCKET is the greatest;");
        int[][] lotsAndSizes = {{20, 30}, {20, 29}, {20, 1}, {19, 7}, {1, 30}, {7, 3}};
        int[][][] rockets = {
            {{999, 1, 0}, {999, 1, 0}, {999, 1, 0}, {999, 1, 0}},
            {{999, 99, 99}, {300, 9, 0}, {500, 20, 5}, {400, 1, 0}},
            {{900, 40, 0}, {450, 3, 0}, {400, 1, 0}},
            {{3, 2, 0}, {2, 1, 0}, {1, 1, 0}, {2, 1, 1}},
            {{500, 30, 99}, {400, 1, 0}},
            {{1, 99, 99}}};
        for (int[][] stages : rockets) {
            for (int[] one : lotsAndSizes) {
                for (int share : new int[] {1, 10, 33, 50}) allWays(one[0] + share % 3, share, stages, one);
            }
        }
    }

    private static void allWays(int load, int share, int[][] stages, int[] lotsAndSize) {
        int lots = lotsAndSize[0], size = lotsAndSize[1], all = 1;
        for (int k = 1; k < stages.length; k++) all *= lots + 1;
        StageYard way = told(load, share, stages);
        int best = -1;
        int[] bestLots = new int[stages.length];
        for (int number = 0; number < all; number++) {
            // The digits of the number, stage 0 first: so the fewest below come first.
            int[] now = new int[stages.length];
            int rest = number, sum = 0;
            if (number % 90 == 0) way = told(load, share, stages);
            for (int k = stages.length - 2; k >= 0; k--) {
                now[k] = rest % (lots + 1);
                rest /= lots + 1;
                sum += now[k];
            }
            if (sum > lots) continue;
            now[stages.length - 1] = lots - sum;
            for (int k = 0; k < stages.length; k++) way.stuff(k, now[k] * size);
            int low = way.speed(0);
            if (low > best) {
                best = low;
                bestLots = now;
            }
        }
        StageYard x = told(load, share, stages);
        String what = lots + " lots of " + size + " on " + stages.length + " stages, share " + share;
        due(what, x.split(lots, size), best);
        for (int k = 0; k < stages.length; k++) due(what + ", stage " + k, x.lots(k), bestLots[k]);
    }

    private static void splitLeavesStuff() {
        says(10, "(STUFF is as it was)");
        StageYard x = bare(2);
        x.stuff(0, 7);
        int low = x.speed(0);
        due("2000 by 3 above", x.split(1, 1), 666);
        due("stuff below", x.about(0, 2), 7);
        due("stuff above", x.about(1, 2), 0);
        due("the speed as it was", x.speed(0), low);
        due("stuff does not enter into it: the stage below with 0", x.split(0, 1), 0);
    }

    private static void lotsOfNone() {
        says(11, "LOTS of a STAGE in the latest split() that was not refused. NONE.");
        range("stage", 0, 1, NONE, Boundary::rich, (x, k) -> x.lots(k));
        range("stage, all four", 0, 3, NONE, Boundary::full, (x, k) -> x.lots(k));
        refused("no stage", NONE, Boundary::fresh, x -> x.lots(0));
        refused("no split yet", NONE, Boundary::small, x -> x.lots(0));
        refused("a split that was refused", NONE, BoundarySearchTest::refusedSplit, x -> x.lots(0));
    }

    private static StageYard refusedSplit() {
        StageYard x = small();
        x.split(21, 1);
        return x;
    }

    private static void lotsOfTheLatest() {
        says(11, "in the latest split() that was not refused.");
        StageYard x = bare(2);
        x.split(3, 1);
        due("three", x.lots(0) + x.lots(1), 3);
        due("too many", x.split(21, 1), BAD);
        due("three still", x.lots(0) + x.lots(1), 3);
        due("size 0", x.split(5, 0), BAD);
        due("three still", x.lots(0) + x.lots(1), 3);
        x.split(20, 30);
        due("twenty now", x.lots(0) + x.lots(1), 20);
        x.split(0, 1);
        due("none now", x.lots(0) + x.lots(1), 0);
        x.split(2, 1);
        x.undo();
        x.undo();
        int below = x.lots(0);
        due("no stage any more", x.split(1, 1), STATE);
        due("the latest stays", x.lots(0), below);
    }

    // ---- cheapest, chosen

    private static void cheapestRanges() {
        says(12, "BAD: speed (0 .. 1000000), lift (0 .. 1000);");
        range("speed", 0, 1000000, BAD, Boundary::rich, (x, n) -> x.cheapest(n, 0));
        range("lift", 0, 1000, BAD, Boundary::rich, (x, n) -> x.cheapest(0, n));
        refused("both", BAD, Boundary::rich, x -> x.cheapest(1000001, 1001));
        StageYard x = new StageYard();
        x.engine(20, 999, 1, 7);
        x.set(0, 0);
        x.stage(0, 1, 30, 0);
        due("999000 by 34 to 5 is more than a million", x.cheapest(1000000, 0), 7);
        x.stuff(0, 0);
        due("2000 by 1 is a lift of more than 1000", x.cheapest(0, 1000), 7);
    }

    private static void cheapestStates() {
        says(12, "STATE: no STAGE, no ENGINE, or 4 STAGES.");
        refused("no engine", STATE, Boundary::fresh, x -> x.cheapest(0, 0));
        refused("no stage", STATE, Boundary::oneEngine, x -> x.cheapest(0, 0));
        refused("4 stages", STATE, Boundary::full, x -> x.cheapest(0, 0));
        refused("BAD speed, and no engine", BAD, Boundary::fresh, x -> x.cheapest(-1, 0));
        refused("BAD lift, and no stage", BAD, Boundary::oneEngine, x -> x.cheapest(0, -1));
        refused("BAD lift, and 4 stages", BAD, Boundary::full, x -> x.cheapest(0, 1001));
        StageYard x = bare(1);
        x.undo();
        due("the stage went", x.cheapest(0, 0), STATE);
    }

    private static void cheapestThreeStages() {
        says(12, "(3 STAGES at most.)");
        for (int stages = 1; stages <= 4; stages++) {
            StageYard x = bare(stages);
            due(stages + " stages", x.cheapest(0, 0), stages < 4 ? 50 * stages : STATE);
        }
        StageYard x = bare(4);
        x.undo();
        due("three again", x.cheapest(0, 0), 150);
    }

    private static void cheapestNoneFound() {
        says(12, "THE CHEAPEST: its COST; -5: there is none.");
        StageYard x = small();
        due("too fast", x.cheapest(1000000, 0), NO_WAY);
        due("too strong", x.cheapest(0, 1000), NO_WAY);
        due("both", x.cheapest(1000000, 1000), NO_WAY);
        due("nothing asked", x.cheapest(0, 0), 50);
        x.stuff(0, 0);
        due("a speed of 0 without stuff", x.cheapest(0, 0), 50);
        due("a speed of 1 without stuff", x.cheapest(1, 0), NO_WAY);
        StageYard dear = new StageYard();
        for (int e = 0; e < 6; e++) dear.engine(999, 1, 1, 9999);
        dear.set(0, 999);
        for (int k = 0; k < 3; k++) dear.stage(0, 1, 0, 0);
        // Two above lift 199800 by 1001, three 299700 by 1002; the lowest three 299700 by 1008: 297.
        due("the dearest that can be", dear.cheapest(0, 297), 9 * 9999);
        due("not more", dear.cheapest(0, 298), NO_WAY);
    }

    private static void speedJustSo() {
        says(12, "such that LOW of the ROCKET is that SPEED or more");
        StageYard x = small();
        x.engine(10, 4, 1, 60);
        due("just so fast", x.cheapest(1566, 0), 50);
        due("a speed less", x.cheapest(1565, 0), 50);
        due("a speed more", x.cheapest(1567, 0), 60);
        due("the most: 4000 by 5, 4, 3", x.cheapest(800 + 1000 + 1333, 0), 60);
        due("more than that", x.cheapest(800 + 1000 + 1334, 0), NO_WAY);
    }

    private static void liftJustSo() {
        says(12, "and LIFT of each STAGE that or more (STUFF, FRAMES as they are)");
        StageYard x = small();
        due("1000 by 5 just so", x.cheapest(0, 200), 50);
        due("2000 by 6 is 333", x.cheapest(0, 201), 100);
        due("just so", x.cheapest(0, 333), 100);
        due("3000 by 7 is 428", x.cheapest(0, 334), 150);
        due("just so", x.cheapest(0, 428), 150);
        due("one more", x.cheapest(0, 429), NO_WAY);
        x.stage(0, 1, 0, 99);
        due("2000 by 101 above, 3000 by 108 below", x.cheapest(0, 19), 250);
        due("3000 by 102 above, 3000 by 109 below", x.cheapest(0, 20), 300);
        due("27 below just so", x.cheapest(0, 27), 300);
        due("29 above is not enough", x.cheapest(0, 28), NO_WAY);
    }

    private static void upToThreeEngines() {
        says(12, "for each STAGE an ENGINE and how many (1 .. 3)");
        StageYard x = oneEngine();
        x.set(0, 10);
        x.stage(0, 9, 0, 0);
        due("at least one, with nothing asked", x.cheapest(0, 0), 50);
        due("one", x.chosen(0, 1), 1);
        due("3000 by 13 is 230", x.cheapest(0, 230), 150);
        due("three", x.chosen(0, 1), 3);
        due("four would lift 4000 by 14: 285", x.cheapest(0, 231), NO_WAY);
        due("the stage has nine still", x.about(0, 1), 9);
    }

    private static void cheapestTies() {
        says(12, "with the least COST together; of several the lesser ENGINE, then the fewer in STAGE 0, then STAGE 1, and so on.");
        StageYard same = new StageYard();
        for (int e = 0; e < 6; e++) same.engine(5, 5, 5, 5);
        for (int k = 0; k < 3; k++) same.stage(5, 3, 1, 1);
        due("six of the same", same.cheapest(0, 0), 15);
        for (int k = 0; k < 3; k++) due("engine 0, one, in stage " + k, same.chosen(k, 0) * 10 + same.chosen(k, 1), 1);
        // Two of engine 0 or one of engine 1: the lesser engine goes ahead of the fewer.
        StageYard two = new StageYard();
        two.engine(10, 2, 1, 2);
        two.engine(999, 2, 1, 4);
        two.set(0, 0);
        two.stage(1, 1, 3, 0);
        due("4 either way", two.cheapest(0, 201), 4);
        due("two of engine 0", two.chosen(0, 0) * 10 + two.chosen(0, 1), 2);
        // MASS ahead is 9, 6 and 3, so LOW 111, 166, 333 of engine 0, three times that of engine 1.
        StageYard x = new StageYard();
        x.engine(10, 1, 1, 5);
        x.engine(10, 3, 1, 5);
        x.set(0, 0);
        for (int k = 0; k < 3; k++) x.stage(0, 1, 1, 0);
        due("one good engine, above", x.cheapest(1277, 0), 15);
        due("where", x.chosen(0, 0) * 100 + x.chosen(1, 0) * 10 + x.chosen(2, 0), 1);
        due("two good engines, the lesser one in stage 0", x.cheapest(1278, 0), 15);
        due("where", x.chosen(0, 0) * 100 + x.chosen(1, 0) * 10 + x.chosen(2, 0), 11);
        due("all three", x.cheapest(333 + 500 + 1000, 0), 15);
        due("where", x.chosen(0, 0) * 100 + x.chosen(1, 0) * 10 + x.chosen(2, 0), 111);
        due("a speed more", x.cheapest(1834, 0), NO_WAY);
        // Below engine 1 (MASS 31) two of engine 0 lift, below engine 2 (MASS 22) one: 3 both times.
        StageYard fewer = new StageYard();
        fewer.engine(17, 1, 1, 1);
        fewer.engine(16, 500, 10, 1);
        fewer.engine(11, 500, 1, 2);
        fewer.stage(0, 1, 10, 0);
        fewer.stage(0, 1, 10, 0);
        due("two below a cheap one, one below a dear one", fewer.cheapest(5000, 50), 3);
        due("the fewer below", fewer.chosen(0, 0) * 10 + fewer.chosen(0, 1), 1);
        due("the dear one above", fewer.chosen(1, 0) * 10 + fewer.chosen(1, 1), 21);
    }

    /** Thrust, exhaust, MASS and COST of six engines: the heaviest beside the lightest. */
    private static final int[][] SIX = {
        {999, 999, 99, 2}, {680, 999, 99, 1}, {999, 1, 1, 9999}, {40, 700, 2, 3}, {300, 400, 40, 2}, {90, 999, 1, 3}};

    private static StageYard six(int load, int[][] stages) {
        StageYard x = new StageYard();
        for (int[] e : SIX) x.engine(e[0], e[1], e[2], e[3]);
        x.set(0, load);
        x.set(1, 50);
        for (int[] stage : stages) x.stage(stage[0], stage[1], stage[2], stage[3]);
        return x;
    }

    private static void cheapestByAllChoices() {
        says(12, "(STUFF, FRAMES as they are), with the least COST together;");
        int[][][] rockets = {
            {{0, 3, 600, 0}, {0, 3, 600, 0}, {1, 3, 600, 0}},
            {{5, 1, 600, 99}, {3, 2, 1, 0}, {0, 3, 600, 0}},
            {{0, 1, 0, 0}, {5, 1, 30, 0}, {3, 3, 4, 9}},
            {{0, 3, 600, 99}, {5, 3, 600, 99}},
            {{5, 2, 600, 0}}};
        for (int[][] stages : rockets) {
            for (int load : new int[] {0, 999}) {
                int speed = Math.min(six(load, stages).speed(0), 1000000);
                int lift = 1000;
                for (int k = 0; k < stages.length; k++) lift = Math.min(lift, six(load, stages).about(k, 8));
                allChoices(load, stages, speed, lift);
                allChoices(load, stages, speed, 0);
                allChoices(load, stages, speed / 2, lift / 2);
                allChoices(load, stages, Math.min(speed + 1, 1000000), Math.min(lift + 1, 1000));
            }
        }
    }

    private static void allChoices(int load, int[][] stages, int speed, int lift) {
        int options = 3 * SIX.length, all = 1, best = NO_WAY;
        for (int k = 0; k < stages.length; k++) all *= options;
        int[][] bestChoice = {};
        for (int number = 0; number < all; number++) {
            int[][] now = new int[stages.length][];
            int rest = number, cost = 0;
            for (int k = stages.length - 1; k >= 0; k--) {
                now[k] = new int[] {rest % options / 3, rest % 3 + 1, stages[k][2], stages[k][3]};
                rest /= options;
                cost += SIX[now[k][0]][3] * now[k][1];
            }
            if (best != NO_WAY && cost >= best || !serves(six(load, now), speed, lift)) continue;
            best = cost;
            bestChoice = now;
        }
        StageYard x = six(load, stages);
        String what = "load " + load + ", " + stages.length + " stages, cheapest(" + speed + ", " + lift + ")";
        due(what, x.cheapest(speed, lift), best);
        for (int k = 0; k < bestChoice.length; k++) {
            due(what + ", stage " + k, x.chosen(k, 0) * 10 + x.chosen(k, 1), bestChoice[k][0] * 10 + bestChoice[k][1]);
        }
    }

    private static boolean serves(StageYard x, int speed, int lift) {
        for (int k = 0; k < x.count(1); k++) {
            if (x.about(k, 8) < lift) return false;
        }
        return x.speed(0) >= speed;
    }

    private static void chosenOfNone() {
        says(13, "what 0 its ENGINE, 1 how many. NONE.");
        range("stage", 0, 1, NONE, Boundary::rich, (x, k) -> x.chosen(k, 0));
        range("what", 0, 1, NONE, Boundary::rich, (x, what) -> x.chosen(1, what));
        refused("neither", NONE, Boundary::rich, x -> x.chosen(2, 2));
        refused("no stage", NONE, Boundary::fresh, x -> x.chosen(0, 0));
        refused("none was asked for yet", NONE, Boundary::small, x -> x.chosen(0, 0));
        range("the third of three", 0, 2, NONE, BoundarySearchTest::threeChosen, (x, k) -> x.chosen(k, 1));
    }

    private static StageYard threeChosen() {
        StageYard x = bare(3);
        x.cheapest(0, 0);
        return x;
    }

    private static void chosenOfTheLatest() {
        says(13, "Of a STAGE in the latest cheapest() that told a COST");
        StageYard x = small();
        due("none found", x.cheapest(1000000, 0), NO_WAY);
        due("it told no cost", x.chosen(0, 0), NONE);
        due("refused", x.cheapest(-1, 0), BAD);
        due("it told no cost", x.chosen(0, 1), NONE);
        x.cheapest(0, 334);
        due("three", x.chosen(0, 1), 3);
        due("none found", x.cheapest(0, 1000), NO_WAY);
        due("three still", x.chosen(0, 1), 3);
        due("refused", x.cheapest(0, 1001), BAD);
        due("three still", x.chosen(0, 1), 3);
        for (int k = 0; k < 3; k++) x.stage(0, 1, 0, 0);
        due("4 stages", x.cheapest(0, 0), STATE);
        due("three still", x.chosen(0, 1), 3);
        due("one that was not in it", x.chosen(1, 1), NONE);
        x.undo();
        due("three stages", x.cheapest(0, 0), 150);
        due("one", x.chosen(0, 1), 1);
    }
}
