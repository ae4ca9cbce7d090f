/** Promises 25 to 29, the sentences that name a boundary case: a year's flights, and the counts. */
public final class BoundaryYearTest extends Boundary {
    public static void main(String[] args) {
        flightRanges();
        tenFlights();
        flightRefusals();
        deliverRanges();
        deliveredAtFirst();
        yearOfNothing();
        upToTheMonth();
        keptTillUsed();
        usedByThoseAhead();
        inAnyOrder();
        eachKindRunsShort();
        mostWorth();
        leastAsBits();
        yearAgain();
        countOfNone();
        countOfNothing();
        countOfAll();
        end();
    }

    private static void yearIs(StageYard x, int worth, int set) {
        due("worth", x.year(), worth);
        due("bits", x.flights(), set);
    }

    private static void flightRanges() {
        says(25, "each needs so many (0 .. 9) of each of ENGINES 0, 1, 2");
        range("a", 0, 9, BAD, Boundary::rich, (x, n) -> x.flight(n, 0, 0, 0, 0));
        range("b", 0, 9, BAD, Boundary::rich, (x, n) -> x.flight(0, n, 0, 0, 0));
        range("c", 0, 9, BAD, Boundary::rich, (x, n) -> x.flight(0, 0, n, 0, 0));
        says(25, "by an END (a month 0 .. 11)");
        range("end", 0, 11, BAD, Boundary::rich, (x, n) -> x.flight(0, 0, 0, n, 0));
        says(25, "and has a WORTH (0 .. 999).");
        range("worth", 0, 999, BAD, Boundary::rich, (x, n) -> x.flight(0, 0, 0, 0, n));
        StageYard x = new StageYard();
        x.flight(9, 9, 9, 11, 999);
        for (int e = 0; e < 3; e++) x.deliver(e, 11, 9);
        yearIs(x, 999, 1);
    }

    private static void tenFlights() {
        says(25, "FLIGHTS of a year are numbered from 0 on, 10 at most");
        StageYard x = new StageYard();
        for (int f = 0; f < 10; f++) due("flight", x.flight(0, 0, 0, 0, 1), f);
        due("an eleventh", x.flight(0, 0, 0, 0, 999), FULL);
        due("there are ten", x.count(2), 10);
        yearIs(x, 10, 1023);
        refused("one too many", FULL, Boundary::full, y -> y.flight(0, 0, 0, 0, 999));
    }

    private static void flightRefusals() {
        says(25, "A FLIGHT of the year more: its number. BAD; FULL.");
        refused("BAD a, and full", BAD, Boundary::full, x -> x.flight(10, 0, 0, 0, 0));
        refused("BAD b, and full", BAD, Boundary::full, x -> x.flight(0, -1, 0, 0, 0));
        refused("BAD c, and full", BAD, Boundary::full, x -> x.flight(0, 0, 10, 0, 0));
        refused("BAD end, and full", BAD, Boundary::full, x -> x.flight(0, 0, 0, 12, 0));
        refused("BAD worth, and full", BAD, Boundary::full, x -> x.flight(0, 0, 0, 0, 1000));
        refused("all of them", BAD, Boundary::rich, x -> x.flight(-1, 10, -1, 12, -1));
    }

    private static void deliverRanges() {
        says(26, "DELIVERED of ENGINE 0, 1, 2 in a month: what it was. NONE; BAD.");
        range("engine", 0, 2, NONE, Boundary::full, (x, e) -> x.deliver(e, 0, 1));
        range("month", 0, 11, NONE, Boundary::rich, (x, month) -> x.deliver(0, month, 1));
        range("n", 0, 9, BAD, Boundary::rich, (x, n) -> x.deliver(2, 11, n));
        refused("no engine, and BAD", NONE, Boundary::rich, x -> x.deliver(3, 0, 10));
        refused("no month, and BAD", NONE, Boundary::rich, x -> x.deliver(0, 12, -1));
        refused("neither", NONE, Boundary::rich, x -> x.deliver(-1, -1, 0));
        // A month too far must not be the next engine's first.
        refused("month 12 of engine 0", NONE, Boundary::rich, x -> x.deliver(0, 12, 9));
        refused("month -1 of engine 1", NONE, Boundary::rich, x -> x.deliver(1, -1, 9));
    }

    private static void deliveredAtFirst() {
        says(26, "In each month so many of each are DELIVERED (0 .. 9; 0 at first)");
        StageYard x = new StageYard();
        for (int e = 0; e < 3; e++) {
            for (int month = 0; month < 12; month++) {
                due("at first", x.deliver(e, month, 9), 0);
                due("it was the most", x.deliver(e, month, 0), 9);
                due("it was the least", x.deliver(e, month, (e + month) % 10), 0);
            }
        }
        for (int e = 0; e < 3; e++) {
            for (int month = 0; month < 12; month++) due("each its own", x.deliver(e, month, 0), (e + month) % 10);
        }
    }

    private static void yearOfNothing() {
        says(27, "THE YEAR: its WORTH.");
        yearIs(new StageYard(), 0, 0);
        StageYard x = new StageYard();
        x.flight(1, 0, 0, 11, 999);
        yearIs(x, 0, 0);
        x.deliver(1, 0, 9);
        x.deliver(2, 0, 9);
        yearIs(x, 0, 0);
        x.flight(0, 0, 0, 0, 5);
        yearIs(x, 5, 2);
    }

    private static void upToTheMonth() {
        says(27, "(each in its END's month, with what was DELIVERED up to it and is not used by those ahead)");
        for (int end = 0; end < 12; end++) {
            for (int month = 0; month < 12; month++) {
                StageYard x = new StageYard();
                x.flight(0, 1, 0, end, 7);
                x.deliver(1, month, 1);
                due("end " + end + ", delivered in " + month, x.year(), month <= end ? 7 : 0);
            }
        }
    }

    private static void keptTillUsed() {
        says(27, "kept till they are used.");
        StageYard x = new StageYard();
        x.flight(9, 0, 0, 11, 1);
        for (int month = 0; month < 9; month++) {
            yearIs(x, 0, 0);
            x.deliver(0, month, 1);
        }
        yearIs(x, 1, 1);
        // 108 in all, of which ten flights use 90.
        StageYard all = new StageYard();
        for (int month = 0; month < 12; month++) all.deliver(2, month, 9);
        for (int f = 0; f < 10; f++) all.flight(0, 0, 9, 11 - f, 999);
        yearIs(all, 9990, 1023);
        all.deliver(2, 0, 0);
        all.deliver(2, 1, 0);
        yearIs(all, 9990, 1023);
        all.deliver(2, 2, 8);
        due("one of the first is missing", all.year(), 9 * 999);
    }

    private static void usedByThoseAhead() {
        says(27, "and is not used by those ahead");
        StageYard x = new StageYard();
        x.deliver(0, 0, 2);
        x.flight(2, 0, 0, 5, 9);
        x.flight(1, 0, 0, 4, 3);
        yearIs(x, 9, 1);
        x.deliver(0, 5, 1);
        yearIs(x, 12, 3);
        x.deliver(0, 5, 0);
        x.deliver(0, 6, 9);
        yearIs(x, 9, 1);
        // Two in one month share what there is.
        StageYard same = new StageYard();
        same.deliver(0, 3, 3);
        same.flight(2, 0, 0, 3, 5);
        same.flight(2, 0, 0, 3, 6);
        yearIs(same, 6, 2);
        same.deliver(0, 3, 4);
        yearIs(same, 11, 3);
    }

    /** Whatever their numbers: those of the months ahead use theirs first. */
    private static void inAnyOrder() {
        says(27, "(each in its END's month");
        int[] ends = {0, 4, 7, 11};
        for (int order = 0; order < 256; order++) {
            StageYard x = new StageYard();
            int seen = 0;
            for (int f = 0; f < 4; f++) {
                int which = order >> (2 * f) & 3;
                seen |= 1 << which;
                x.flight(1, 0, 0, ends[which], 1);
                x.deliver(0, ends[which], 1);
            }
            if (seen == 15) yearIs(x, 4, 15);
        }
    }

    private static void eachKindRunsShort() {
        says(27, "the set of FLIGHTS that can all be flown");
        for (int e = 0; e < 3; e++) {
            StageYard x = new StageYard();
            x.flight(9, 9, 9, 0, 4);
            for (int other = 0; other < 3; other++) x.deliver(other, 0, 9);
            yearIs(x, 4, 1);
            x.deliver(e, 0, 8);
            yearIs(x, 0, 0);
        }
        StageYard x = new StageYard();
        x.engine(1, 1, 1, 1);
        x.store(0, 99);
        x.flight(1, 0, 0, 11, 4);
        due("STORE does not enter into it", x.year(), 0);
    }

    private static void mostWorth() {
        says(27, "with the most WORTH;");
        StageYard x = new StageYard();
        x.deliver(0, 0, 9);
        x.flight(9, 0, 0, 0, 10);
        for (int f = 1; f < 10; f++) x.flight(1, 0, 0, f, 1);
        yearIs(x, 10, 1);
        x.flight(0, 0, 0, 0, 999);
        yearIs(x, 10, 1);
        StageYard y = new StageYard();
        y.deliver(0, 0, 9);
        y.flight(9, 0, 0, 11, 8);
        for (int f = 1; f < 10; f++) y.flight(1, 0, 0, f, 1);
        yearIs(y, 9, 1022);
    }

    private static void leastAsBits() {
        says(28, "with the most WORTH; of several the least as bits.");
        StageYard x = new StageYard();
        for (int f = 0; f < 10; f++) x.flight(1, 0, 0, 11 - f, 5);
        yearIs(x, 0, 0);
        x.deliver(0, 0, 1);
        yearIs(x, 5, 1);
        x.deliver(0, 0, 2);
        yearIs(x, 10, 3);
        StageYard free = new StageYard();
        for (int f = 0; f < 9; f++) free.flight(0, 0, 0, f, 0);
        yearIs(free, 0, 0);
        free.flight(0, 0, 0, 11, 1);
        yearIs(free, 1, 512);
        // Bits 0 and 1 (3) against bit 2 (4), as much worth.
        StageYard two = new StageYard();
        two.deliver(1, 0, 2);
        two.flight(0, 1, 0, 5, 5);
        two.flight(0, 1, 0, 4, 5);
        two.flight(0, 2, 0, 0, 10);
        yearIs(two, 10, 3);
        // Bit 0 alone (1) against bits 1 and 2 (6).
        StageYard one = new StageYard();
        one.deliver(2, 0, 2);
        one.flight(0, 0, 2, 5, 10);
        one.flight(0, 0, 1, 4, 5);
        one.flight(0, 0, 1, 3, 5);
        yearIs(one, 10, 1);
    }

    private static void yearAgain() {
        says(28, "THE YEAR's set of FLIGHTS, as bits.");
        StageYard x = new StageYard();
        x.flight(0, 0, 0, 0, 1);
        due("flights() without year()", x.flights(), 1);
        x.flight(0, 0, 0, 0, 1);
        due("as it is now", x.flights(), 3);
        due("as it is now", x.year(), 2);
        x.flight(1, 0, 0, 3, 1);
        due("one that can't", x.flights(), 3);
        x.deliver(0, 3, 1);
        due("one that can", x.flights(), 7);
        x.deliver(0, 3, 0);
        due("no more", x.flights(), 3);
        for (int f = 3; f < 10; f++) x.flight(0, 0, 0, 11, 1);
        due("all ten but one", x.flights(), 1023 - 4);
    }

    // ---- count

    private static void countOfNone() {
        says(29, "4 bought ones, 5 MASS of the whole ROCKET with its LOAD. NONE.");
        range("what", 0, 5, NONE, Boundary::rich, (x, what) -> x.count(what));
        refused("what 6 of a new object", NONE, Boundary::fresh, x -> x.count(6));
    }

    private static void countOfNothing() {
        says(29, "0 ENGINES, 1 STAGES, 2 FLIGHTS of the year, 3 ENGINES in STORE, 4 bought ones");
        StageYard x = new StageYard();
        for (int what = 0; what < 5; what++) due("what " + what, x.count(what), 0);
        due("the load at first", x.count(5), 10);
        x.set(0, 0);
        due("no load", x.count(5), 0);
        x.set(0, 999);
        due("the most load", x.count(5), 999);
    }

    private static void countOfAll() {
        says(29, "0 ENGINES, 1 STAGES, 2 FLIGHTS of the year, 3 ENGINES in STORE, 4 bought ones");
        StageYard x = full();
        int[] want = {6, 4, 10, 6 * 99, 0};
        for (int what = 0; what < 5; what++) due("what " + what, x.count(what), want[what]);
        // Engines of MASS 1 to 4, a tank of 1 and STUFF 8 each, FRAMES 0 to 3, LOAD 10.
        due("mass", x.count(5), 4 + 3 * 2 + 2 * 3 + 4 + 4 * 9 + 6 + 10);
        x.buy();
        due("ten were taken", x.count(3), 6 * 99 - 10);
        due("none was bought", x.count(4), 0);
    }
}
