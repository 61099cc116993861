import java.lang.management.ManagementFactory;
import java.lang.reflect.Array;
import java.lang.reflect.Field;
import java.lang.reflect.InvocationTargetException;
import java.lang.reflect.Method;
import java.lang.reflect.Modifier;
import java.util.ArrayList;
import java.util.Comparator;
import java.util.List;
import java.util.NoSuchElementException;
import java.util.Random;

/** Any arguments in any state: nothing but bucket's two exceptions; little room, and no more by calls. */
public final class ExtremesTest {
    private static final int[] NUMBERS = {Integer.MIN_VALUE, Integer.MIN_VALUE + 1, -65536, -201, -3, -2, -1, 0, 1,
        2, 3, 4, 5, 9, 10, 11, 15, 16, 17, 19, 20, 60, 61, 98, 99, 100, 199, 200, 201, 900, 901, 999, 1000, 1500,
        1501, 3000, 9999, 10000, 65535, 99999, 100000, 999999, 9999999, 10000000, Integer.MAX_VALUE - 1,
        Integer.MAX_VALUE};

    private static final String[] WORLDS = {"",
        "sets 4;ways 4;limit 60;rate 1;sender 1 1500 20 99 1;sender 2 1 20 1 0;sender 3 7 1 5 1;run 200;",
        "sets 1;ways 1;limit 1;target 1;interval 10;quantum 50;sender 1 1500 20 1 0;sender 5 1 20 1 0;run 9;",
        "target 1;interval 10;limit 60;quantum 50;sender 1 1500 20 99 0;run 200;pass 999;run 3;",
        "rate 1;come 1 1500 0;come 2 1500 0;come 3 1500 1;go 2;"};

    public static void main(String[] args) throws Exception {
        neverThrows();
        makesNothing();
        dearestCalls();
        roomOfOne();
        Check.finish("ExtremesTest");
    }

    private static List<Method> face() {
        List<Method> face = new ArrayList<>();
        for (Method m : QueueKeeper.class.getMethods()) {
            if (m.getDeclaringClass() == QueueKeeper.class) {
                face.add(m);
            }
        }
        face.sort(Comparator.comparing(Method::getName));
        return face;
    }

    private static void neverThrows() throws Exception {
        Random random = new Random(5);
        List<Method> face = face();
        int bad = 0;
        for (int round = 0; round < 60; round++) {
            QueueKeeper x = Check.keeper(WORLDS[round % WORLDS.length]);
            for (int call = 0; call < 512; call++) {
                Method m = face.get(random.nextInt(face.size()));
                Object[] numbers = new Object[m.getParameterCount()];
                for (int i = 0; i < numbers.length; i++) {
                    numbers[i] = NUMBERS[random.nextInt(NUMBERS.length)];
                }
                try {
                    m.invoke(x, numbers);
                } catch (InvocationTargetException e) {
                    Class<?> kind = e.getCause().getClass();
                    boolean isDue = m.getName().equals("bucket") && (kind == IndexOutOfBoundsException.class
                        || kind == NoSuchElementException.class);
                    if (!isDue) {
                        bad++;
                        e.getCause().printStackTrace(System.out);
                    }
                }
            }
        }
        Check.due("exceptions that aren't due", bad, 0);
    }

    /** All calls of a run share one room, so calls use the rows that the constructor made. */
    private static void makesNothing() {
        com.sun.management.ThreadMXBean bean =
            (com.sun.management.ThreadMXBean) ManagementFactory.getThreadMXBean();
        QueueKeeper x = Check.keeper(WORLDS[2]);
        callAll(x);
        long self = Thread.currentThread().getId();
        long none = bean.getThreadAllocatedBytes(self);
        long before = bean.getThreadAllocatedBytes(self);
        callAll(x);
        long made = bean.getThreadAllocatedBytes(self) - before - (before - none);
        // The least row or object of a call would be seen; the measuring itself may be off by little.
        Check.due("bytes that calls made: " + made, made < 64 ? 0 : 1, 0);
    }

    private static int callAll(QueueKeeper x) {
        int sum = x.come(1, 5, 0) + x.pass(1) + x.go() + x.run(3) + x.sender(0, 2) + x.whose(0) + x.ifRun(200, 5)
            + x.firstCut(200) + x.leastLimit(200) + x.bestTarget(200) + x.settle(0, 4) + x.watch(0, 0) + x.watched(0)
            + x.set(4) + x.bucketFor(4) + x.bucket(0, 3) + x.inBucket(0, 0) + x.order(0) + x.frame(0, 4)
            + x.past(0, 0) + x.eldest(0, 0) + x.least(0) + x.rootBy(999) + x.exact(9) + x.farthest(999, 0);
        return sum + x.flow(1, 0) + x.uneven() + x.ahead(1) + x.drain(4, 0) + x.leastTarget(3) + x.bestQuantum(3)
            + x.shared() + x.within(0, 9) + x.middle() + x.load(0) + x.count(0) + x.feed(1, 2, 3, 4, 5) + x.text(-1)
            + x.fault(0);
    }

    private static void dearestCalls() {
        long begin = System.nanoTime();
        QueueKeeper x = Check.keeper(WORLDS[2]);
        QueueKeeper y = Check.keeper("sets 4;ways 4;quantum 50;limit 60;sender 1 1500 20 99 1;sender 2 1500 20 99 0;"
            + "sender 3 1500 20 99 1;sender 5 1500 20 99 0;run 1;");
        for (int i = 0; i < 100; i++) {
            x.bestTarget(200);
            y.bestTarget(200);
            y.bestQuantum(0);
            y.leastTarget(0);
            y.uneven();
        }
        long seconds = (System.nanoTime() - begin) / 1_000_000_000;
        Check.due("dear calls end soon, not in " + seconds + " s", seconds < 60 ? 1 : 0, 1);
    }

    /** Of a room of 600,000 objects with 7.3 million places, one keeper takes less than a 500th. */
    private static void roomOfOne() throws IllegalAccessException {
        int[] taken = {0, 0};
        measure(new QueueKeeper(), taken);
        Check.due("objects of one: " + taken[0], taken[0] > 0 && taken[0] <= 1200 ? 1 : 0, 1);
        Check.due("places of one: " + taken[1], taken[1] > 0 && taken[1] <= 14600 ? 1 : 0, 1);
    }

    /** Objects and arrays, then their fields and elements; no object is held twice. */
    private static void measure(Object holder, int[] taken) throws IllegalAccessException {
        taken[0]++;
        if (holder.getClass().isArray()) {
            taken[1] += Array.getLength(holder);
            for (int i = 0; !holder.getClass().getComponentType().isPrimitive() && i < Array.getLength(holder); i++) {
                measure(Array.get(holder, i), taken);
            }
            return;
        }
        for (Field f : holder.getClass().getDeclaredFields()) {
            if (!Modifier.isStatic(f.getModifiers())) {
                taken[1]++;
                f.setAccessible(true);
                if (!f.getType().isPrimitive()) {
                    measure(f.get(holder), taken);
                }
            }
        }
    }
}
