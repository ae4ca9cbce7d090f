import com.sun.management.ThreadMXBean;
import java.lang.management.ManagementFactory;
import java.lang.reflect.Array;
import java.lang.reflect.Field;
import java.lang.reflect.Modifier;
import java.util.IdentityHashMap;
import java.util.Map;

/**
 * The room of a run, counted as the strictest reader would: the dearest call times all calls. A call
 * must make nothing at all, and even a new object for every call must fit.
 */
public final class RoomTest {
    private static final long CALLS = 512, OBJECTS = 600000, ELEMENTS = 7300000;
    private static int wrong = 0;

    private static final ThreadMXBean BEAN = (ThreadMXBean) ManagementFactory.getThreadMXBean();

    private static void must(boolean holds, String what) {
        if (!holds) {
            wrong++;
            System.out.println(what);
        }
    }

    public static void main(String[] args) throws IllegalAccessException {
        newObject();
        callsMakeNothing();
        callsOfAnObject();
        if (wrong != 0) System.exit(1);
    }

    // ---- what a new object is made of

    private static void newObject() throws IllegalAccessException {
        Map<Object, Boolean> seen = new IdentityHashMap<>();
        long elements = elementsOf(new StageYard(), seen);
        long objects = seen.size();
        System.out.println("a new object: " + objects + " objects and arrays, " + elements + " fields and elements");
        must(objects * CALLS <= OBJECTS, "a new object has too many objects");
        must(elements * CALLS <= ELEMENTS, "a new object has too many fields and elements");
        long least = Long.MAX_VALUE;
        for (int tries = 0; tries < 5; tries++) {
            long before = BEAN.getCurrentThreadAllocatedBytes();
            StageYard made = new StageYard();
            least = Math.min(least, BEAN.getCurrentThreadAllocatedBytes() - before);
            must(made.count(0) == 0, "a new object has no engines");
        }
        // 24 for each head, 8 for a field at most: what is made in passing would stand out.
        must(least <= 24 * objects + 8 * elements, "the constructor makes more than it keeps: " + least + " bytes");
    }

    private static long elementsOf(Object one, Map<Object, Boolean> seen) throws IllegalAccessException {
        if (one == null || seen.put(one, true) != null) return 0;
        return one.getClass().isArray() ? elementsOfArray(one, seen) : elementsOfFields(one, seen);
    }

    private static long elementsOfArray(Object one, Map<Object, Boolean> seen) throws IllegalAccessException {
        long sum = Array.getLength(one);
        if (one.getClass().getComponentType().isPrimitive()) return sum;
        for (Object part : (Object[]) one) sum += elementsOf(part, seen);
        return sum;
    }

    private static long elementsOfFields(Object one, Map<Object, Boolean> seen) throws IllegalAccessException {
        long sum = 0;
        for (Field f : one.getClass().getDeclaredFields()) {
            if (Modifier.isStatic(f.getModifiers())) continue;
            sum++;
            f.setAccessible(true);
            if (!f.getType().isPrimitive()) sum += elementsOf(f.get(one), seen);
        }
        return sum;
    }

    // ---- what calls make

    private static final int METHODS = 28;

    private static int call(StageYard x, int which, int n) {
        switch (which) {
            case 0: return x.engine(999 - n, 900 + n, 99, 9999);
            case 1: return x.store(n, 1);
            case 2: return x.stage(n, 9, 600, 99);
            case 3: return x.undo();
            case 4: return x.stuff(n, 600);
            case 5: return x.set(n, 50);
            case 6: return x.about(n, 7);
            case 7: return x.speed(n % 2);
            case 8: return x.split(20, 30);
            case 9: return x.lots(n);
            case 10: return x.cheapest(1000000 - 300000 * n, 0);
            case 11: return x.chosen(n, 1);
            case 12: return x.air(n, 999);
            case 13: return x.limit(n, 1000000);
            case 14: return x.fly();
            case 15: return x.flown(n);
            case 16: return x.out(n);
            case 17: return x.safe();
            case 18: return x.cost(n, 999);
            case 19: return x.price();
            case 20: return x.buy();
            case 21: return x.keeping(n, 100);
            case 22: return x.even(n, 100, 99999);
            case 23: return x.flight(0, 0, 0, n, 999);
            case 24: return x.deliver(n, n, 9);
            case 25: return x.year();
            case 26: return x.flights();
            default: return x.count(n);
        }
    }

    /** Each method on its own, at first and again, refused and not. */
    private static void callsMakeNothing() {
        for (int stages = 0; stages <= 4; stages++) {
            for (int which = 0; which < METHODS; which++) {
                long bytes = leastBytesOf(stages, which);
                must(bytes == 0, "call " + which + " with " + stages + " stages made " + bytes + " bytes");
            }
        }
    }

    /**
     * The least of some tries, a new object each: the machine makes objects of its own as it loads
     * what a method first uses, once; what the class makes is made for each object again.
     */
    private static long leastBytesOf(int stages, int which) {
        long least = Long.MAX_VALUE;
        for (int tries = 0; tries < 5 && least != 0; tries++) {
            StageYard x = filled(stages);
            long before = BEAN.getCurrentThreadAllocatedBytes();
            for (int n = -1; n <= 7; n++) call(x, which, n);
            least = Math.min(least, BEAN.getCurrentThreadAllocatedBytes() - before);
        }
        return least;
    }

    private static StageYard filled(int stages) {
        StageYard x = new StageYard();
        for (int e = 0; e < 6; e++) x.engine(999 - e, 900 + e, 99, 9999);
        for (int k = 0; k < stages; k++) x.stage(k, 9, 600, 99);
        for (int f = 0; f < 9; f++) x.flight(0, 0, 0, f, f);
        return x;
    }

    /** As many calls as an object is used for, with what searches and flies among them. */
    private static void callsOfAnObject() {
        long least = Long.MAX_VALUE;
        for (int tries = 0; tries < 5 && least != 0; tries++) {
            StageYard x = filled(3);
            long before = BEAN.getCurrentThreadAllocatedBytes();
            for (int n = 0; n < CALLS - 18; n++) call(x, n % METHODS, n % 8);
            least = Math.min(least, BEAN.getCurrentThreadAllocatedBytes() - before);
        }
        System.out.println("all calls of an object: " + least + " bytes");
        must(least == 0, "the calls of an object make " + least + " bytes");
    }
}
