import com.sun.management.ThreadMXBean;
import java.lang.management.ManagementFactory;

/** What the dearest runs of calls make must fit the room: counted in bytes, 4 for an element. */
public final class RoomTest {
    private static final long ROOM = 4L * 7300000;
    private static int wrong = 0;

    private static long bytesMade() {
        ThreadMXBean bean = (ThreadMXBean) ManagementFactory.getThreadMXBean();
        return bean.getCurrentThreadAllocatedBytes();
    }

    private static void mustFit(String what, long bytes, long most) {
        System.out.println(what + ": " + bytes + " bytes");
        if (bytes > most) {
            wrong++;
            System.out.println(what + " made more than " + most + " bytes");
        }
    }

    public static void main(String[] args) {
        oneObject();
        long before = bytesMade();
        oneObject();
        mustFit("512 searches and flights on one object", bytesMade() - before, ROOM / 50);
        before = bytesMade();
        manyObjects();
        mustFit("a new object for every few calls", bytesMade() - before, ROOM / 2);
        if (wrong != 0) System.exit(1);
    }

    private static void fill(StageYard x) {
        for (int e = 0; e < 6; e++) x.engine(999 - e, 900 + e, 99, 9999);
        for (int k = 0; k < 3; k++) x.stage(k, 9, 100, 99);
    }

    private static void oneObject() {
        StageYard x = new StageYard();
        fill(x);
        for (int f = 0; f < 10; f++) x.flight(0, 0, 0, f, f);
        for (int call = 0; call < 480; call += 8) {
            x.split(20, 30);
            x.cheapest(1000000, 0);
            x.fly();
            x.safe();
            x.year();
            x.flights();
            x.price();
            x.speed(1);
        }
    }

    private static void manyObjects() {
        for (int call = 0; call < 512; call += 11) {
            StageYard x = new StageYard();
            fill(x);
            x.cheapest(1000000, 0);
        }
    }
}
