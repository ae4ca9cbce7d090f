/** Part 6 of the document, over all calls: which refusal is told, and that it changes nothing. */
public final class BoundaryRefusalTest extends Boundary {
    interface Wide {
        int on(StageYard x, int[] n);
    }

    public static void main(String[] args) {
        firstOneTold();
        stateBehindThose();
        fullBehindThose();
        theLastCall();
        end();
    }

    /** A number of a call in a rich yard: its range there, and what is told of one off it. */
    private static int[] none(int most) {
        return new int[] {0, most, NONE};
    }

    private static int[] bad(int least, int most) {
        return new int[] {least, most, BAD};
    }

    private static void firstOneTold() {
        says(1, "REFUSALS, of several the first one told: NONE there is no such ENGINE, STAGE, LAYER, FLIGHT, month, what, i; BAD a number is not as told;");
        every("engine", (x, n) -> x.engine(n[0], n[1], n[2], n[3]), bad(1, 999), bad(1, 999), bad(1, 99), bad(1, 9999));
        every("store", (x, n) -> x.store(n[0], n[1]), none(2), bad(1, 99));
        every("stage", (x, n) -> x.stage(n[0], n[1], n[2], n[3]), none(2), bad(1, 9), bad(0, 600), bad(0, 99));
        every("stuff", (x, n) -> x.stuff(n[0], n[1]), none(1), bad(0, 600));
        every("set", (x, n) -> x.set(n[0], n[1]), none(2), bad(0, 999));
        every("about", (x, n) -> x.about(n[0], n[1]), none(1), none(8));
        every("speed", (x, n) -> x.speed(n[0]), none(1));
        every("split", (x, n) -> x.split(n[0], n[1]), bad(0, 20), bad(1, 30));
        every("lots", (x, n) -> x.lots(n[0]), none(1));
        every("cheapest", (x, n) -> x.cheapest(n[0], n[1]), bad(0, 1000000), bad(0, 1000));
        every("chosen", (x, n) -> x.chosen(n[0], n[1]), none(1), none(1));
        every("air", (x, n) -> x.air(n[0], n[1]), none(9), bad(0, 999));
        every("limit", (x, n) -> x.limit(n[0], n[1]), none(2), bad(0, 1000000));
        every("flown", (x, n) -> x.flown(n[0]), none(6));
        every("out", (x, n) -> x.out(n[0]), bad(0, 1999));
        every("cost", (x, n) -> x.cost(n[0], n[1]), none(2), bad(0, 999));
        every("keeping", (x, n) -> x.keeping(n[0], n[1]), none(0), bad(0, 40));
        every("even", (x, n) -> x.even(n[0], n[1], n[2]), none(1), bad(0, 200), bad(0, 99999));
        every("flight", (x, n) -> x.flight(n[0], n[1], n[2], n[3], n[4]), bad(0, 9), bad(0, 9), bad(0, 9), bad(0, 11), bad(0, 999));
        every("deliver", (x, n) -> x.deliver(n[0], n[1], n[2]), none(2), none(11), bad(0, 9));
        every("count", (x, n) -> x.count(n[0]), none(5));
    }

    /** All ways to have some of the numbers too small or too large, with the others as told. */
    private static void every(String name, Wide call, int[]... ranges) {
        int ways = 1;
        for (int k = 0; k < ranges.length; k++) ways *= 3;
        for (int way = 1; way < ways; way++) {
            int[] n = new int[ranges.length];
            int want = 0;
            int rest = way;
            StringBuilder text = new StringBuilder(name);
            for (int k = 0; k < n.length; k++) {
                int off = rest % 3;
                rest /= 3;
                n[k] = off == 0 ? ranges[k][0] : off == 1 ? ranges[k][0] - 1 : ranges[k][1] + 1;
                if (off > 0 && want != NONE) want = ranges[k][2];
                text.append(' ').append(n[k]);
            }
            Yard yard = name.equals("keeping") ? BoundaryRefusalTest::oneStage : Boundary::rich;
            refused(text.toString(), want, yard, x -> call.on(x, n));
        }
    }

    /** With a STAGE of 40, so that what keeping() may keep of it is told by its STUFF. */
    private static StageYard oneStage() {
        StageYard x = rich();
        x.undo();
        return x;
    }

    private static void stateBehindThose() {
        says(1, "STATE as told;");
        Yard[] yards = {Boundary::fresh, Boundary::oneEngine};
        for (Yard yard : yards) {
            refused("undo", STATE, yard, x -> x.undo());
            refused("split", STATE, yard, x -> x.split(0, 1));
            refused("split, BAD", BAD, yard, x -> x.split(0, 0));
            refused("cheapest", STATE, yard, x -> x.cheapest(0, 0));
            refused("cheapest, BAD", BAD, yard, x -> x.cheapest(0, -1));
            refused("fly", STATE, yard, x -> x.fly());
            refused("out", STATE, yard, x -> x.out(0));
            refused("out, BAD", BAD, yard, x -> x.out(-1));
            refused("safe", STATE, yard, x -> x.safe());
            refused("price", STATE, yard, x -> x.price());
            refused("buy", STATE, yard, x -> x.buy());
        }
    }

    private static void fullBehindThose() {
        says(1, "FULL. They change nothing.");
        refused("engine", FULL, Boundary::full, x -> x.engine(1, 1, 1, 1));
        refused("store", FULL, Boundary::full, x -> x.store(0, 1));
        refused("stage", FULL, Boundary::full, x -> x.stage(0, 1, 0, 0));
        refused("flight", FULL, Boundary::full, x -> x.flight(0, 0, 0, 0, 0));
        refused("all of them, again and again", FULL, Boundary::full, x -> {
            int told = FULL;
            for (int n = 0; n < 20; n++) {
                told = Math.max(told, x.engine(1, 1, 1, 1));
                told = Math.max(told, x.store(n % 6, 1));
                told = Math.max(told, x.stage(0, 1, 0, 0));
                told = Math.max(told, x.flight(0, 0, 0, 0, 0));
            }
            return told;
        });
    }

    private static void theLastCall() {
        says(1, "An object is used for at most 512 calls after it has been made");
        StageYard x = small();
        for (int n = 3; n < 508; n++) {
            x.stuff(0, n % 2 == 0 ? 3 : 600);
        }
        due("call 509", x.stuff(0, 3), 600);
        due("call 510", x.fly(), 0);
        due("call 511", x.flown(1), 614);
        due("call 512", x.speed(0), 1566);
    }
}
