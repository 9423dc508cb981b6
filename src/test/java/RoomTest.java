import java.lang.management.ManagementFactory;
import java.lang.reflect.InvocationTargetException;
import java.lang.reflect.Method;
import java.lang.reflect.Modifier;

/** What holds for every call: none throws, and none makes new objects without need. */
public final class RoomTest {
    private static final Check c = new Check();
    private static final int[] ODD = {Integer.MIN_VALUE, Integer.MIN_VALUE + 1, -100, -5, -3, -2, -1, 0, 1, 2, 3, 4, 5, 6, 7, 8, 9,
        10, 11, 12, 13, 20, 21, 59, 60, 61, 63, 64, 99, 100, 101, 127, 128, 4095, 4096, 9999, 10000, Integer.MAX_VALUE - 1,
        Integer.MAX_VALUE};
    private static long seed = 7;

    private static int below(int n) {
        seed = seed * 6364136223846793005L + 1442695040888963407L;
        return (int) ((seed >>> 33) % n);
    }

    public static void main(String[] args) throws Exception {
        noneThrows();
        nothingNewIsMade();
        c.end("RoomTest");
    }

    private static void noneThrows() throws Exception {
        int thrown = 0;
        for (int run = 0; run < 400; run++) {
            WitnessPays x = run % 4 == 0 ? new WitnessPays() : someStreet(run);
            for (int call = 0; call < 512 && thrown == 0; call++) {
                Method m = anyMethod();
                Object[] values = new Object[m.getParameterCount()];
                for (int i = 0; i < values.length; i++) {
                    Class<?> type = m.getParameterTypes()[i];
                    int n = below(2) == 0 ? below(7) : ODD[below(ODD.length)];
                    values[i] = type == boolean.class ? (Object) (n > 0) : type == long.class ? (Object) (long) n : (Object) n;
                }
                try {
                    m.invoke(x, values);
                } catch (InvocationTargetException e) {
                    thrown++;
                    System.out.println(m.getName() + java.util.Arrays.toString(values) + " threw " + e.getCause());
                }
            }
        }
        c.due("calls that threw", thrown, 0);
    }

    private static Method anyMethod() {
        Method[] all = WitnessPays.class.getDeclaredMethods();
        java.util.Arrays.sort(all, (a, b) -> a.toString().compareTo(b.toString()));
        for (int i = 0; i < 1000; i++) {
            Method m = all[below(all.length)];
            if (Modifier.isPublic(m.getModifiers())) {
                return m;
            }
        }
        throw new IllegalStateException("no public method");
    }

    private static WitnessPays someStreet(int which) {
        seed = which;
        WitnessPays x = new WitnessPays();
        for (int i = 0; i < 6; i++) {
            x.one((i + which) % 7, below(10), below(12));
            x.row(i, below(4), below(10));
            x.set(i, 1, below(300));
        }
        x.leave(below(12), true);
        x.walls(below(4096) & below(4096) & below(4096));
        x.pass(below(20));
        Check.enact(x, "fine " + (20 + below(70)) + ";far " + below(4) + " d<5&!k=3;near 2 a>6|m<1;far 4 v=" + below(10));
        for (int i = 0; i < 3; i++) {
            x.see(below(12), below(4), x.at(below(12), 0));
            x.plan(below(3), below(12));
            x.book(i, x.of(i, 3));
        }
        x.act(below(6), 2, below(100));
        x.tape(0, 0, 14);
        x.item(0, 3, 1);
        x.tape(1, 4, 5);
        x.feed('f');
        return x;
    }

    private static void nothingNewIsMade() {
        WitnessPays x = someStreet(3);
        long sum = 0;
        long most = 0;
        for (int round = 0; round < 2; round++) {
            long before = allocated();
            for (int i = 0; i < 512; i++) {
                sum += x.of(i % 6, 7) + x.of(i % 6, 8) + x.told(i % 8) + x.at(i % 12, 2) + x.at(i % 12, 3) + x.deed(i % 12);
                sum += x.wrong() + x.from(i % 6) + x.can(i % 6, 0) + x.odds(i % 12, 1) + x.mean(0) + x.ends(1) + x.looked();
                sum += x.judge(0, 0) + x.image() + x.undo() + x.act(i % 6, 2, i) + x.tape(3, 3, 60) + x.shift(3, 0, 3, 1, 59);
                sum += x.feed('?') + x.statute() + x.pass(0) + x.see(-1, 0, 0) + x.see(1, 20, 3) + x.plan(-1, 0) + x.plan(0, 0);
            }
            most = allocated() - before;
        }
        c.holds("512 rounds of the dearest calls made " + most + " bytes of new objects, sum " + sum, most < 20000);
        long before = allocated();
        WitnessPays y = new WitnessPays();
        for (int i = 0; i < 6; i++) {
            Check.enact(y, "fine 1;far 1 p=1");
        }
        most = allocated() - before;
        c.holds("an object and six laws are " + most + " bytes", most < 20000);
    }

    private static long allocated() {
        return ((com.sun.management.ThreadMXBean) ManagementFactory.getThreadMXBean()).getThreadAllocatedBytes(Thread.currentThread().getId());
    }
}
