import java.io.IOException;
import java.nio.file.Files;
import java.nio.file.Path;
import java.util.ArrayList;
import java.util.List;

/**
 * What the boundary tests share: each of their methods begins with the words of the document that
 * it holds, and every refused call is made on one of two equal objects, which must be equal behind
 * it too. Nothing is asked of an object behind its 512th call.
 */
class Boundary {
    static final int NONE = -1, BAD = -2, STATE = -3, FULL = -4, NO_WAY = -5;
    static final int LEAST = Integer.MIN_VALUE, MOST = Integer.MAX_VALUE;

    interface Yard {
        StageYard made();
    }

    interface Call {
        int on(StageYard x);
    }

    interface CallWith {
        int on(StageYard x, int n);
    }

    private static final String DOCUMENT = documentInOneLine();
    private static String sentence = "";
    private static int sentences = 0;
    private static int asked = 0;
    private static int wrong = 0;

    private static String documentInOneLine() {
        try {
            return Files.readString(Path.of("../shared/DOC.md")).replaceAll("\\s+", " ");
        } catch (IOException e) {
            return "";
        }
    }

    /** The words that the next questions hold; they must stand in the document, where it is here. */
    static void says(int promise, String words) {
        sentence = "promise " + promise + ", \"" + words + "\"";
        sentences++;
        if (!DOCUMENT.isEmpty() && !DOCUMENT.contains(words)) {
            wrong++;
            System.out.println(sentence + " does not stand in the document");
        }
    }

    static void due(String what, int got, int want) {
        asked++;
        if (got != want) {
            wrong++;
            System.out.println(sentence + ": " + what + " answered " + got + ", due is " + want);
        }
    }

    /** The call is refused so, and changes nothing. */
    static void refused(String what, int want, Yard yard, Call call) {
        StageYard x = yard.made();
        due(what, call.on(x), want);
        List<Integer> behind = seen(x);
        List<Integer> ahead = seen(yard.made());
        asked++;
        if (!behind.equals(ahead)) {
            wrong++;
            System.out.println(sentence + ": " + what + " changed something: " + ahead + " became " + behind);
        }
    }

    /** Both ends of the range are taken; what is too small or too large, by 1 or by far, is refused. */
    static void range(String what, int least, int most, int want, Yard yard, CallWith call) {
        taken(what + " " + least, call.on(yard.made(), least));
        taken(what + " " + most, call.on(yard.made(), most));
        for (int n : new int[] {least - 1, LEAST, most + 1, MOST}) {
            refused(what + " " + n, want, yard, x -> call.on(x, n));
        }
    }

    private static void taken(String what, int got) {
        asked++;
        if (got >= FULL && got <= NONE) {
            wrong++;
            System.out.println(sentence + ": " + what + " was refused by " + got);
        }
    }

    /** All that can be seen of an object, in under 300 calls; it is of no use behind that. */
    static List<Integer> seen(StageYard x) {
        List<Integer> all = new ArrayList<>();
        for (int what = 0; what <= 5; what++) all.add(x.count(what));
        for (int what = 0; what <= 6; what++) all.add(x.flown(what));
        for (int k = 0; k < 4; k++) {
            for (int what = 0; what <= 8; what++) all.add(x.about(k, what));
            all.add(x.lots(k));
            all.add(x.chosen(k, 0));
            all.add(x.chosen(k, 1));
        }
        for (int e = 0; e < 6; e++) {
            all.add(x.cost(e, 0));
            all.add(x.cost(e, 3));
        }
        all.add(x.price());
        all.add(x.year());
        all.add(x.flights());
        all.add(x.safe());
        for (int tick = 0; tick < 4; tick++) all.add(x.out(tick));
        seenByChanging(x, all);
        return all;
    }

    private static void seenByChanging(StageYard x, List<Integer> all) {
        for (int what = 0; what < 3; what++) {
            all.add(x.set(what, 50));
            all.add(x.limit(what, 0));
        }
        for (int layer = 0; layer < 10; layer++) all.add(x.air(layer, 0));
        for (int month = 0; month < 12; month++) {
            for (int e = 0; e < 3; e++) all.add(x.deliver(e, month, 9));
        }
        all.add(x.year());
        all.add(x.flights());
        for (int e = 0; e < 6; e++) all.add(x.store(e, 1));
    }

    static void end() {
        System.out.println(wrong == 0 ? sentences + " sentences, " + asked + " answers are as due"
            : wrong + " answers are not as due");
        if (wrong != 0) System.exit(1);
    }

    // ---- objects that many tests begin with

    static StageYard fresh() {
        return new StageYard();
    }

    static StageYard oneEngine() {
        StageYard x = new StageYard();
        x.engine(10, 2, 1, 50);
        return x;
    }

    /** One STAGE: one engine (thrust 10, exhaust 2, MASS 1, COST 50), STUFF 3, no FRAME, LOAD 0: MASS 5. */
    static StageYard small() {
        StageYard x = oneEngine();
        x.set(0, 0);
        x.stage(0, 1, 3, 0);
        return x;
    }

    /** Something in every part of the object, and nothing of it full. */
    static StageYard rich() {
        StageYard x = new StageYard();
        x.engine(50, 300, 4, 100);
        x.engine(20, 400, 2, 90);
        x.engine(999, 100, 30, 9999);
        x.stage(0, 3, 40, 5);
        x.stage(1, 1, 20, 2);
        x.set(0, 12);
        x.set(1, 11);
        x.set(2, 80);
        x.split(6, 10);
        x.cheapest(5000, 100);
        x.limit(0, 4000);
        x.limit(1, 500);
        x.limit(2, 50);
        x.air(1, 77);
        x.fly();
        x.buy();
        x.store(0, 2);
        x.store(2, 1);
        x.flight(1, 0, 0, 2, 5);
        x.flight(2, 0, 1, 3, 9);
        x.flight(0, 1, 0, 1, 3);
        x.deliver(0, 0, 2);
        x.deliver(1, 1, 1);
        x.deliver(2, 3, 1);
        return x;
    }

    /** ENGINES, STAGES, STORE and FLIGHTS of the year are full. */
    static StageYard full() {
        StageYard x = new StageYard();
        for (int e = 0; e < 6; e++) x.engine(20 + e, 300 - e, 1 + e, 100 + e);
        for (int k = 0; k < 4; k++) x.stage(k, 4 - k, 8, k);
        for (int e = 0; e < 6; e++) x.store(e, 99);
        for (int f = 0; f < 10; f++) x.flight(1, 0, 0, f, f);
        x.split(4, 2);
        x.fly();
        return x;
    }

    /** The same object with no air in any LAYER. */
    static StageYard airless(StageYard x) {
        for (int layer = 0; layer < 10; layer++) x.air(layer, 0);
        return x;
    }
}
