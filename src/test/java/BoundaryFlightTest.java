/** Promises 14 to 19, the sentences that name a boundary case: air, limits and flights. */
public final class BoundaryFlightTest extends Boundary {
    public static void main(String[] args) {
        airRanges();
        airAtFirst();
        layersBegin();
        noAirAbove();
        leastAndMostAir();
        limitRanges();
        limitsAtFirst();
        noStuff();
        nothingAtFirst();
        burnsWhatIsLeft();
        cutTowardZero();
        paceStaysWithin();
        dragAddedBelowZero();
        dragCutTwice();
        downToTheGround();
        fallsOffAtTheEnd();
        fallsOffAhead();
        lastStuffEnds();
        twoThousandTicks();
        breakOne();
        breakTwoAndThree();
        flownOfNone();
        flownOfTheLatest();
        firstOfTheGreatest();
        noTickOfBreak();
        outRange();
        outOfNoStuff();
        outWithOneEngine();
        outWithTwoEngines();
        outBehindTheFlight();
        outLeavesFlown();
        safeTicks();
        safeOfLoading();
        safeOfNoStuff();
        end();
    }

    private static void flown(StageYard x, int ticks, int height, int pace) {
        due("ticks", x.flown(0), ticks);
        due("height", x.flown(1), height);
        due("pace", x.flown(2), pace);
    }

    // ---- rockets that are easy to reckon

    /** Two ticks of five engines, MASS 50 at first: behind the first HEIGHT and PACE are so many. */
    private static StageYard risingTo(int height) {
        StageYard x = new StageYard();
        x.engine((height + 100) / 10, 1, 1, 1);
        x.set(0, 34);
        x.stage(0, 5, 10, 0);
        return x;
    }

    /**
     * No air. A stage of 5 below with a thrust and some STUFF (1 or 2, the FRAME fills it up), and one
     * of 10 (with a LOAD of 7 in it) above with a thrust and STUFF 1.
     */
    private static StageYard fiveUnderTen(int thrustBelow, int stuffBelow, int thrustAbove) {
        StageYard x = airless(new StageYard());
        x.engine(thrustBelow, 1, 1, 1);
        x.engine(thrustAbove, 1, 1, 1);
        x.set(0, 7);
        x.stage(0, 1, stuffBelow, 3 - stuffBelow);
        x.stage(1, 1, 1, 0);
        return x;
    }

    // ---- air

    private static void airRanges() {
        says(14, "AIR of a LAYER: what it was. NONE; BAD.");
        range("layer", 0, 9, NONE, Boundary::rich, (x, layer) -> x.air(layer, 5));
        range("n", 0, 999, BAD, Boundary::rich, (x, n) -> x.air(9, n));
        refused("layer 10, and BAD", NONE, Boundary::rich, x -> x.air(10, 1000));
        refused("layer -1, and BAD", NONE, Boundary::rich, x -> x.air(-1, -1));
        StageYard x = new StageYard();
        x.air(0, 999);
        due("it was the most", x.air(0, 0), 999);
        due("it was the least", x.air(0, 1), 0);
    }

    private static void airAtFirst() {
        says(14, "0 .. 999, 100 less 10 k at first.");
        StageYard x = new StageYard();
        for (int k = 0; k < 10; k++) due("layer " + k, x.air(k, 500), 100 - 10 * k);
        for (int k = 1; k < 10; k++) {
            StageYard y = risingTo(1000 * k);
            y.fly();
            due("loading in layer " + k, y.flown(3), 10000 * k * k * (100 - 10 * k) / 100);
        }
    }

    private static void layersBegin() {
        says(14, "AIR of LAYER k (HEIGHT from 1000 k on, k 0 .. 9;");
        // Seven of 157 push 1099: by a MASS of 100 that is a PACE of 999.
        StageYard below = airless(new StageYard());
        below.engine(157, 1, 1, 1);
        below.set(0, 77);
        below.stage(0, 7, 14, 0);
        below.air(0, 100);
        below.fly();
        due("height 999 is in layer 0", below.flown(3), 9980);
        below.air(0, 0);
        below.air(1, 100);
        below.fly();
        due("height 999 is not in layer 1", below.flown(3), 0);
        for (int k = 1; k < 10; k++) {
            StageYard x = airless(risingTo(1000 * k));
            x.air(k, 100);
            x.fly();
            due("height " + 1000 * k + " is in layer " + k, x.flown(3), 10000 * k * k);
            x.air(k, 0);
            x.air(k - 1, 100);
            x.fly();
            due("height " + 1000 * k + " is not in layer " + (k - 1), x.flown(3), 0);
        }
    }

    private static void noAirAbove() {
        says(14, "above HEIGHT 9999 there is none");
        // MASS 42, 37: PACE 3185, then 6814, so HEIGHT 9999 as the third tick begins.
        StageYard x = airless(new StageYard());
        x.engine(276, 1, 1, 1);
        x.set(0, 20);
        x.stage(0, 5, 15, 0);
        x.air(9, 100);
        x.fly();
        due("height 9999 is in layer 9", x.flown(3), 464305);
        due("at tick 2", x.flown(4), 2);
        // Four of 505 push 2020: by a MASS of 20 that is a PACE of 10000.
        StageYard y = new StageYard();
        for (int k = 0; k < 10; k++) y.air(k, 999);
        y.engine(505, 1, 1, 1);
        y.set(0, 7);
        y.stage(0, 4, 8, 0);
        y.limit(0, 0);
        due("no loading at height 10000", y.fly(), 0);
        due("none at all", y.flown(3), 0);
        due("two ticks", y.flown(0), 2);
    }

    private static void leastAndMostAir() {
        says(14, "AIR of LAYER k (HEIGHT from 1000 k on, k 0 .. 9; above HEIGHT 9999 there is none): 0 .. 999");
        StageYard x = risingTo(1000);
        x.air(1, 999);
        x.fly();
        due("10000 times 999 by 100", x.flown(3), 99900);
        x.air(1, 1);
        x.fly();
        due("10000 times 1 by 100", x.flown(3), 100);
        x.air(1, 0);
        x.fly();
        due("no air", x.flown(3), 0);
    }

    // ---- limits

    private static void limitRanges() {
        says(15, "what 0 LOADING (0 .. 1000000), 1 HEIGHT (0 .. 1000000), 2 PACE (0 .. 1000000): what it was. NONE; BAD.");
        for (int what = 0; what < 3; what++) {
            int which = what;
            range("limit " + what, 0, 1000000, BAD, Boundary::rich, (x, n) -> x.limit(which, n));
            StageYard x = new StageYard();
            x.limit(what, 1000000);
            due("it was the most", x.limit(what, 0), 1000000);
            due("it was the least", x.limit(what, 1), 0);
        }
        range("what", 0, 2, NONE, Boundary::rich, (x, what) -> x.limit(what, 5));
        refused("what 3, and BAD", NONE, Boundary::rich, x -> x.limit(3, -1));
        refused("what -1, and BAD", NONE, Boundary::rich, x -> x.limit(-1, 1000001));
    }

    private static void limitsAtFirst() {
        says(15, "LOADING (0 .. 1000000; that at first), HEIGHT that it must have at the end (0 at first), PACE that it must have at the end (0 at first).");
        StageYard fresh = new StageYard();
        due("loading", fresh.limit(0, 5), 1000000);
        due("height", fresh.limit(1, 5), 0);
        due("pace", fresh.limit(2, 5), 0);
        // PACE 4000 by AIR 625: a LOADING of 1000000, which brings it down to the ground.
        StageYard x = risingTo(4000);
        x.air(4, 625);
        due("a loading of just 1000000", x.fly(), 0);
        due("loading", x.flown(3), 1000000);
        x.air(4, 626);
        due("above it", x.fly(), 1);
        due("at tick 1", x.flown(5), 1);
        StageYard slow = small();
        slow.set(0, 999);
        due("height 0 and pace 0 are not below", slow.fly(), 0);
        flown(slow, 3, 0, 0);
    }

    // ---- flights

    private static void noStuff() {
        says(16, "A FLIGHT: its BREAK. STATE: no STAGE has STUFF.");
        refused("no stage", STATE, Boundary::fresh, x -> x.fly());
        refused("a stage without stuff", STATE, BoundaryFlightTest::empty, x -> x.fly());
        StageYard x = empty();
        for (int k = 1; k < 4; k++) x.stage(0, 1, 0, 0);
        due("four without stuff", x.fly(), STATE);
        x.stuff(3, 1);
        due("the upper one has 1", x.fly(), 0);
        due("one tick", x.flown(0), 1);
        x.stuff(3, 0);
        due("no more", x.fly(), STATE);
    }

    /** A stage without stuff, behind a flight, so that a flight in vain would be seen. */
    private static StageYard empty() {
        StageYard x = small();
        x.fly();
        x.stuff(0, 0);
        return x;
    }

    private static void nothingAtFirst() {
        says(16, "HEIGHT and PACE are 0 at first.");
        StageYard x = small();
        for (int n = 0; n < 3; n++) {
            x.fly();
            flown(x, 3, 614, 289);
            due("loading", x.flown(3), 506);
        }
        StageYard one = risingTo(1000);
        one.stuff(0, 5);
        one.fly();
        due("one tick", one.flown(0), 1);
        due("no loading in the first", one.flown(3), 0);
    }

    private static void burnsWhatIsLeft() {
        says(16, "burns as many of its STUFF as it has ENGINES that work, or as it has left.");
        StageYard x = airless(oneEngine());
        x.set(0, 0);
        x.stage(0, 2, 3, 0);
        x.fly();
        // MASS 6, two burn: 233; MASS 4, one burns: 150 more.
        flown(x, 2, 616, 383);
        x.stuff(0, 2);
        x.fly();
        due("two at once: 2000 by 5 less 100", x.flown(0) * 1000 + x.flown(1), 1300);
        x.stuff(0, 4);
        x.fly();
        due("two and two", x.flown(0), 2);
        says(16, "PUSH: THRUST times those that burn (each one of STUFF; no more than it had).");
        StageYard nine = new StageYard();
        nine.engine(22, 1, 1, 1);
        nine.set(0, 0);
        nine.stage(0, 9, 1, 0);
        nine.fly();
        // MASS 11, one of nine engines burns.
        flown(nine, 1, 100, 100);
    }

    private static void cutTowardZero() {
        says(16, "PACE grows by (100 PUSH less 100 times the MASS ahead, less DRAG) by the MASS ahead, cut toward 0");
        StageYard x = fiveUnderTen(30, 1, 1);
        x.set(0, 4);
        // MASS 12: 3000 by 12 is 250; MASS 7: -600 by 7 is -85.7.
        x.fly();
        flown(x, 2, 150 + 65, 150 - 85);
        StageYard up = fiveUnderTen(30, 1, 10);
        up.set(0, 4);
        up.fly();
        // MASS 7: 300 by 7 is 42.9.
        flown(up, 2, 150 + 192, 150 + 42);
    }

    /** The lower end can't be seen: what goes down so fast is on the ground in the same tick. */
    private static void paceStaysWithin() {
        says(16, "it stays within -100000 .. 100000.");
        StageYard x = new StageYard();
        x.engine(999, 1, 1, 1);
        x.set(0, 0);
        x.set(1, 1);
        x.stage(0, 9, 27, 0);
        x.stage(0, 9, 27, 0);
        x.fly();
        // MASS 74, 65, 56, then 37, 28, 19: PACE 12050, 25782, 41737, 65937, 97947, and not 145168.
        flown(x, 6, 12050 + 25782 + 41737 + 65937 + 97947 + 100000, 100000);
        x.limit(2, 100000);
        due("just so much", x.fly(), 0);
        x.limit(2, 100001);
        due("never more", x.fly(), 3);
        x.stuff(1, 18);
        x.fly();
        // MASS 65, 56, 47, then 28, 19: PACE 13732, 29687, 48716, 80726, and not 127947.
        flown(x, 5, 13732 + 29687 + 48716 + 80726 + 100000, 100000);
    }

    private static void dragAddedBelowZero() {
        says(16, "(where PACE is below 0 DRAG is added in place of that)");
        StageYard x = fiveUnderTen(165, 1, 2);
        x.set(0, 6);
        x.stuff(1, 2);
        x.air(0, 100);
        x.air(1, 102);
        x.fly();
        // PACE 1000; MASS 10, DRAG 10200: PACE -100, HEIGHT 900; MASS 9, DRAG 100: -600 by 9.
        flown(x, 3, 900 - 166, -166);
        due("the greatest loading", x.flown(3), 10200);
    }

    private static void dragCutTwice() {
        says(16, "DRAG: PACE times PACE by 100, cut, times AIR of the LAYER, by 100, cut (LAYER and PACE as they are ahead of the TICK).");
        StageYard x = small();
        x.air(0, 99);
        x.fly();
        // PACE 225: 506.25 is cut to 506; 500.94 is cut to 500.
        due("loading", x.flown(3), 500);
        flown(x, 3, 325 + 291, 291);
        StageYard slow = new StageYard();
        slow.engine(109, 1, 1, 1);
        slow.set(0, 96);
        slow.air(0, 999);
        slow.stage(0, 1, 2, 0);
        slow.fly();
        // MASS 100: PACE 9, and 81 by 100 is cut to 0.
        due("no loading by a pace of 9", slow.flown(3), 0);
        slow.set(0, 95);
        slow.fly();
        due("a pace of 10: 1 times 999 by 100", slow.flown(3), 9);
    }

    private static void downToTheGround() {
        says(16, "Then HEIGHT grows by PACE; if it is below 0 then, HEIGHT and PACE are 0.");
        StageYard just = fiveUnderTen(21, 1, 2);
        due("pace is below 0", just.fly(), 3);
        // MASS 15: PACE 40; MASS 10: -80 more, so that HEIGHT is just 0.
        flown(just, 2, 0, -40);
        StageYard below = fiveUnderTen(21, 1, 1);
        due("on the ground", below.fly(), 0);
        // -90 more: HEIGHT would be -10.
        flown(below, 2, 0, 0);
        StageYard never = fiveUnderTen(1, 2, 1);
        due("never off the ground", never.fly(), 0);
        flown(never, 3, 0, 0);
        StageYard hover = fiveUnderTen(15, 1, 10);
        due("a push of just its weight", hover.fly(), 0);
        flown(hover, 2, 0, 0);
        // PACE 60; MASS 10, DRAG 300: PACE -60, HEIGHT just 0; MASS 6, DRAG 300 once more: 150 more.
        StageYard again = fiveUnderTen(24, 1, 1);
        again.engine(12, 1, 1, 1);
        again.set(0, 3);
        again.undo();
        again.stage(1, 1, 1, 1);
        again.stage(2, 1, 1, 0);
        again.air(0, 834);
        due("up again", again.fly(), 0);
        flown(again, 3, 90, 90);
    }

    private static void fallsOffAtTheEnd() {
        says(16, "When a STAGE has no STUFF any more it falls off at the end of that TICK");
        StageYard x = fiveUnderTen(30, 2, 20);
        x.fly();
        // MASS 15, 14, then 10.
        flown(x, 3, 100 + 214 + 314, 314);
        due("both fell off", x.flown(6), 2);
        StageYard four = oneEngine();
        for (int k = 0; k < 4; k++) four.stage(0, 1, 1, 0);
        four.fly();
        due("four ticks", four.flown(0), 4);
        due("all four fell off", four.flown(6), 4);
        due("the rocket itself is whole", four.count(1), 4);
    }

    private static void fallsOffAhead() {
        says(16, "(ahead of that, if it has none as it begins).");
        StageYard low = oneEngine();
        low.set(0, 0);
        low.stage(0, 9, 0, 99);
        low.stage(0, 5, 0, 50);
        low.stage(0, 1, 3, 0);
        low.fly();
        flown(low, 3, 614, 289);
        due("two empty ones fell off too", low.flown(6), 3);
        StageYard middle = airless(new StageYard());
        middle.engine(30, 1, 1, 1);
        middle.engine(20, 1, 1, 1);
        middle.set(0, 7);
        middle.stage(0, 1, 1, 0);
        middle.stage(0, 1, 0, 1);
        middle.stage(1, 1, 1, 0);
        middle.fly();
        // MASS 15 with the empty one, then 10 without it.
        flown(middle, 2, 100 + 200, 200);
        due("the empty one fell off too", middle.flown(6), 3);
    }

    private static void lastStuffEnds() {
        says(16, "The FLIGHT ends behind the TICK in which the last STUFF burns;");
        StageYard one = small();
        one.stuff(0, 1);
        one.fly();
        due("1 by one engine", one.flown(0), 1);
        one.stuff(0, 600);
        one.fly();
        due("600 by one engine", one.flown(0), 600);
        StageYard nine = oneEngine();
        nine.stage(0, 9, 600, 0);
        nine.fly();
        due("600 by nine engines", nine.flown(0), 67);
        StageYard high = small();
        high.stage(0, 1, 0, 0);
        high.fly();
        due("three ticks under an empty stage", high.flown(0), 3);
        due("the empty one is there at the end", high.flown(6), 1);
    }

    /**
     * Three stages of 600 that stay down, and one with so much STUFF above (199 to 201) that gets off
     * the ground with the last of it alone (MASS 32 by a thrust of 33: PACE 3).
     */
    private static StageYard longOne(int stuffAbove) {
        StageYard x = new StageYard();
        x.engine(1, 1, 99, 1);
        x.engine(33, 1, 1, 1);
        for (int k = 0; k < 3; k++) x.stage(0, 1, 600, 0);
        x.stage(1, 1, stuffAbove, 0);
        x.set(0, stuffAbove == 201 ? 9 : 10);
        x.limit(2, 1);
        return x;
    }

    private static void twoThousandTicks() {
        says(16, "2000 TICKS at most.");
        StageYard x = longOne(199);
        due("1999 ticks are flown", x.fly(), 0);
        flown(x, 1999, 3, 3);
        due("four fell off", x.flown(6), 4);
        x = longOne(200);
        due("2000 ticks are flown", x.fly(), 0);
        flown(x, 2000, 3, 3);
        due("four fell off", x.flown(6), 4);
        x = longOne(201);
        due("the last of 2001 is not", x.fly(), 3);
        flown(x, 2000, 0, 0);
        due("three fell off", x.flown(6), 3);
        x = longOne(600);
        due("of 2400 neither", x.fly(), 3);
        flown(x, 2000, 0, 0);
        due("three fell off", x.flown(6), 3);
    }

    // ---- breaks

    private static void breakOne() {
        says(16, "BREAK of a FLIGHT: 0 none; 1 LOADING was above the limit (at which TICK first);");
        // LOADING is 0, 100 and 506.
        int[][] cases = {{0, 1, 1}, {99, 1, 1}, {100, 1, 2}, {505, 1, 2}, {506, 0, NONE}, {1000000, 0, NONE}};
        StageYard x = small();
        for (int[] one : cases) {
            x.limit(0, one[0]);
            due("a limit of " + one[0], x.fly(), one[1]);
            due("its tick", x.flown(5), one[2]);
        }
        StageYard still = airless(small());
        still.limit(0, 0);
        due("a loading of 0 is not above 0", still.fly(), 0);
    }

    private static void breakTwoAndThree() {
        says(16, "2 HEIGHT is below at the end, else 3 PACE is.");
        // HEIGHT is 614 and PACE 289 at the end.
        int[][] cases = {{614, 289, 0}, {615, 289, 2}, {614, 290, 3}, {615, 290, 2}, {0, 1000000, 3}, {1000000, 0, 2}};
        StageYard x = small();
        for (int[] one : cases) {
            x.limit(1, one[0]);
            x.limit(2, one[1]);
            due("height " + one[0] + ", pace " + one[1], x.fly(), one[2]);
        }
        x.limit(1, 1000000);
        x.limit(2, 1000000);
        x.limit(0, 505);
        due("loading goes ahead of both", x.fly(), 1);
    }

    // ---- flown

    private static void flownOfNone() {
        says(17, "6 STAGES that fell off. NONE: none was, too.");
        range("what", 0, 6, NONE, Boundary::rich, (x, what) -> x.flown(what));
        StageYard x = small();
        for (int what = -1; what <= 7; what++) due("no flight yet, what " + what, x.flown(what), NONE);
        x.stuff(0, 0);
        due("refused", x.fly(), STATE);
        for (int what = 0; what <= 6; what++) due("none was, what " + what, x.flown(what), NONE);
        StageYard asked = small();
        asked.out(0);
        asked.safe();
        for (int what = 0; what <= 6; what++) due("out() and safe() are none, what " + what, asked.flown(what), NONE);
    }

    private static void flownOfTheLatest() {
        says(17, "Of the latest fly():");
        StageYard x = small();
        x.fly();
        x.stuff(0, 0);
        due("refused", x.fly(), STATE);
        flown(x, 3, 614, 289);
        x.undo();
        due("refused", x.fly(), STATE);
        flown(x, 3, 614, 289);
        due("it fell off", x.flown(6), 1);
        x.stage(0, 1, 1, 0);
        x.fly();
        // MASS 3: 1000 by 3 less 100.
        flown(x, 1, 233, 233);
    }

    private static void firstOfTheGreatest() {
        says(17, "3 the greatest LOADING, 4 its TICK (the first)");
        StageYard still = airless(small());
        still.fly();
        due("no loading", still.flown(3), 0);
        due("0 in all ticks, the first", still.flown(4), 0);
        // PACE 40 in the first tick, then two in which a push of 100 holds a MASS of 100 and 99.
        StageYard x = new StageYard();
        x.engine(147, 1, 1, 1);
        x.engine(100, 1, 1, 1);
        x.set(0, 96);
        x.stage(0, 1, 1, 2);
        x.stage(1, 1, 2, 0);
        x.fly();
        flown(x, 3, 120, 40);
        due("16 twice", x.flown(3), 16);
        due("the first of them", x.flown(4), 1);
        x.limit(0, 15);
        due("above 15", x.fly(), 1);
        due("the first of them", x.flown(5), 1);
        airless(x);
        due("no air any more", x.fly(), 0);
        due("no loading", x.flown(3), 0);
        due("0 in all ticks, the first", x.flown(4), 0);
    }

    private static void noTickOfBreak() {
        says(17, "5 the TICK of BREAK 1 (NONE)");
        StageYard x = small();
        x.fly();
        due("no break", x.flown(5), NONE);
        x.limit(1, 1000000);
        x.fly();
        due("break 2", x.flown(5), NONE);
        x.limit(1, 0);
        x.limit(2, 1000000);
        x.fly();
        due("break 3", x.flown(5), NONE);
        x.limit(0, 505);
        x.fly();
        due("break 1", x.flown(5), 2);
        x.limit(0, 506);
        x.fly();
        due("break 3 again", x.flown(5), NONE);
    }

    // ---- an engine out

    private static void outRange() {
        says(18, "BAD: not 0 .. 1999; STATE: as fly().");
        range("tick", 0, 1999, BAD, Boundary::rich, (x, tick) -> x.out(tick));
        StageYard x = longOne(200);
        due("in the last of 2000 ticks", x.out(1999), 3);
        due("behind it", x.out(2000), BAD);
        x = longOne(199);
        due("behind the last of 1999", x.out(1999), 0);
        due("in the last of 1999", x.out(1998), 3);
    }

    private static void outOfNoStuff() {
        says(18, "STATE: as fly().");
        refused("no stage", STATE, Boundary::fresh, x -> x.out(0));
        refused("no stuff", STATE, BoundaryFlightTest::empty, x -> x.out(1999));
        refused("no stage, and BAD", BAD, Boundary::fresh, x -> x.out(-1));
        refused("no stuff, and BAD", BAD, BoundaryFlightTest::empty, x -> x.out(2000));
    }

    /** The flight with an engine out comes to just that HEIGHT. */
    private static void comesTo(StageYard x, int tick, int height) {
        x.limit(1, height);
        due("out from " + tick + " on, height " + height, x.out(tick), 0);
        x.limit(1, height + 1);
        due("out from " + tick + " on, not more than " + height, x.out(tick), 2);
    }

    private static void outWithOneEngine() {
        says(18, "(with one ENGINE none does; then its STUFF is lost, it falls off ahead of that TICK).");
        StageYard x = fiveUnderTen(30, 2, 20);
        comesTo(x, 0, 100);
        comesTo(x, 1, 100 + 200);
        comesTo(x, 2, 100 + 214);
        // With an empty stage between the next one that burns is the one above that.
        StageYard y = fiveUnderTen(30, 1, 20);
        y.undo();
        y.stage(1, 9, 0, 99);
        y.stage(1, 1, 1, 0);
        comesTo(y, 0, 100);
        // An empty stage below is gone ahead of tick 0, so the engine is one of the next.
        StageYard z = airless(oneEngine());
        z.set(0, 0);
        z.stage(0, 1, 0, 9);
        z.stage(0, 2, 3, 0);
        comesTo(z, 0, 66 + 166 + 316);
        StageYard only = small();
        due("the only stage is lost, on the ground", only.out(0), 0);
        only.limit(2, 1);
        due("without any pace", only.out(0), 3);
        only.limit(2, 0);
        comesTo(only, 0, 0);
    }

    private static void outWithTwoEngines() {
        says(18, "AN ENGINE OUT from TICK t on: one of the STAGE that burns then works no more");
        StageYard x = airless(oneEngine());
        x.set(0, 0);
        x.stage(0, 2, 3, 0);
        comesTo(x, 0, 66 + 166 + 316);
        // Two burnt in tick 0, and one engine will do for the last one.
        comesTo(x, 1, 616);
        StageYard two = fiveUnderTen(30, 2, 20);
        two.undo();
        two.undo();
        two.stage(0, 2, 2, 0);
        two.stage(1, 1, 1, 0);
        // The engine is out below; the one above works.
        comesTo(two, 0, 100 + 214 + 314);
        comesTo(two, 1, 300);
        comesTo(two, 2, 300 + 400);
        StageYard nine = new StageYard();
        nine.engine(22, 1, 1, 1);
        nine.set(0, 0);
        nine.stage(0, 9, 1, 0);
        comesTo(nine, 0, 100);
    }

    private static void outBehindTheFlight() {
        says(18, "BREAK of a FLIGHT with AN ENGINE OUT from a TICK on.");
        StageYard x = fiveUnderTen(30, 2, 20);
        comesTo(x, 3, 628);
        comesTo(x, 4, 628);
        comesTo(x, 1999, 628);
        x.limit(1, 0);
        x.limit(2, 315);
        due("pace of the whole flight", x.out(3), 3);
        x.limit(2, 314);
        due("just so much", x.out(3), 0);
        StageYard loaded = small();
        loaded.limit(0, 99);
        due("out in the tick of the break", loaded.out(1), 0);
        due("out behind it", loaded.out(2), 1);
    }

    private static void outLeavesFlown() {
        says(18, "(What flown() tells stays.)");
        StageYard x = small();
        x.out(0);
        due("no flight", x.flown(0), NONE);
        x.fly();
        for (int tick = 0; tick < 4; tick++) {
            x.out(tick);
            flown(x, 3, 614, 289);
            due("loading", x.flown(3) * 10 + x.flown(4), 5062);
            due("it fell off", x.flown(6), 1);
        }
        x.safe();
        flown(x, 3, 614, 289);
    }

    private static void safeTicks() {
        says(19, "How many TICKS of the FLIGHT there are from which on AN ENGINE OUT leaves BREAK 0.");
        // The three ticks come to 100, 300 and 314, the whole flight to 628.
        int[][] cases = {{0, 3}, {100, 3}, {101, 2}, {300, 2}, {301, 1}, {314, 1}, {315, 0}, {628, 0}, {629, 0}};
        StageYard x = fiveUnderTen(30, 2, 20);
        for (int[] one : cases) {
            x.limit(1, one[0]);
            due("a limit of " + one[0], x.safe(), one[1]);
        }
        due("2000 ticks, the last 200 of the upper stage", longOne(200).safe(), 1800);
        due("1999 ticks", longOne(199).safe(), 1800);
        // With one of the lower three out the last of 2001 is flown.
        due("2001 ticks would be needed", longOne(201).safe(), 1800);
        StageYard down = longOne(600);
        down.limit(2, 0);
        due("all of 2000 ticks", down.safe(), 2000);
        StageYard one = small();
        one.stuff(0, 1);
        due("the only tick", one.safe(), 1);
        // Two below and one above come to 628 and 300, the whole flight to 700.
        StageYard two = fiveUnderTen(30, 2, 20);
        two.undo();
        two.undo();
        two.stage(0, 2, 2, 0);
        two.stage(1, 1, 1, 0);
        int[][] more = {{300, 2}, {301, 1}, {628, 1}, {629, 0}};
        for (int[] limit : more) {
            two.limit(1, limit[0]);
            due("two below, a limit of " + limit[0], two.safe(), limit[1]);
        }
    }

    private static void safeOfLoading() {
        says(19, "from which on AN ENGINE OUT leaves BREAK 0.");
        int[][] cases = {{0, 2}, {99, 2}, {100, 3}, {505, 3}, {506, 3}};
        StageYard x = small();
        for (int[] one : cases) {
            x.limit(0, one[0]);
            due("a limit of " + one[0], x.safe(), one[1]);
        }
        // The last tick has a LOADING of 1980 with an engine out from 0 on, of 1918 from 1 on, and is
        // not flown with the upper stage's only one out.
        StageYard three = new StageYard();
        three.engine(12, 1, 1, 1);
        three.engine(47, 1, 1, 1);
        three.set(0, 6);
        three.stage(0, 3, 4, 0);
        three.stage(1, 1, 2, 0);
        int[][] more = {{100, 2}, {1917, 2}, {1918, 3}, {1979, 3}, {1980, 4}};
        for (int[] one : more) {
            three.limit(0, one[0]);
            due("three below, a limit of " + one[0], three.safe(), one[1]);
        }
    }

    private static void safeOfNoStuff() {
        says(19, "leaves BREAK 0. STATE.");
        refused("no stage", STATE, Boundary::fresh, x -> x.safe());
        refused("no stuff", STATE, BoundaryFlightTest::empty, x -> x.safe());
    }
}
