import java.lang.reflect.InvocationTargetException;
import java.lang.reflect.Method;
import java.lang.reflect.Modifier;
import java.util.Arrays;
import java.util.Comparator;
import java.util.Random;

/** Any numbers in any state: nothing is thrown, refusals change nothing, and calls make next to no objects. */
public final class ExtremesTest {
    private static final int[] ODD = {Integer.MIN_VALUE, Integer.MIN_VALUE + 1, -65536, -256, -61, -12, -11, -4, -3, -2, -1, 0, 1, 2, 3, 4, 7, 8, 9,
        11, 12, 15, 16, 17, 23, 24, 25, 59, 60, 61, 99, 100, 255, 256, 65536, Integer.MAX_VALUE - 1, Integer.MAX_VALUE};
    private static int wrong = 0;

    public static void main(String[] args) throws Exception {
        Method[] calls = publicCalls();
        for (int seed = 0; seed < 60 && wrong < 20; seed++) {
            oneRun(calls, new Random(seed));
        }
        room();
        System.out.println(wrong == 0 ? "nothing is thrown, refusals change nothing" : wrong + " are wrong");
        if (wrong != 0) {
            System.exit(1);
        }
    }

    private static Method[] publicCalls() {
        Method[] calls = Arrays.stream(SnowRoad.class.getDeclaredMethods()).filter(m -> Modifier.isPublic(m.getModifiers())).toArray(Method[]::new);
        Arrays.sort(calls, Comparator.comparing(Method::getName));
        return calls;
    }

    private static void oneRun(Method[] calls, Random random) throws Exception {
        SnowRoad x = new SnowRoad();
        String[] texts = {"ohchocohchoo", "4030512", "a3e;l2w;f9e", "aafmx"};
        for (int text = 0; text < 4; text++) {
            for (char c : texts[text].toCharArray()) {
                if (random.nextInt(40) != 0) {
                    x.type(text, c);
                }
            }
        }
        for (int i = 0; i < 400; i++) {
            Method call = calls[random.nextInt(calls.length)];
            if (call.getName().equals("wipe") && random.nextInt(8) != 0) {
                continue;
            }
            Object[] with = new Object[call.getParameterCount()];
            for (int k = 0; k < with.length; k++) {
                with[k] = random.nextInt(3) == 0 ? ODD[random.nextInt(ODD.length)] : random.nextInt(14) - 1;
            }
            check(x, call, with);
        }
    }

    private static void check(SnowRoad x, Method call, Object[] with) throws Exception {
        String told = call.getName() + Arrays.toString(with);
        long before = x.digest();
        int finding = x.count(8);
        try {
            long answer = ((Number) call.invoke(x, with)).longValue();
            boolean refused = answer <= -2 && answer >= -15 || answer == Long.MIN_VALUE + 2;
            if (call.getName().equals("get") || call.getName().equals("digest")) {
                refused = false;
            }
            boolean isFinding = refused && answer <= -11 && answer >= -15;
            if (refused && x.digest() != before) {
                fault(told + " was refused and changed something");
            }
            if (refused && x.count(8) != (isFinding ? -10 - answer : finding)) {
                fault(told + " was refused, and count(8) is " + x.count(8));
            }
        } catch (InvocationTargetException thrown) {
            fault(told + " has thrown " + thrown.getCause());
        }
    }

    private static void fault(String told) {
        wrong++;
        System.out.println(told);
    }

    /** A run's objects share one room, so that calls may not make rows of their own. */
    private static void room() {
        com.sun.management.ThreadMXBean bean = (com.sun.management.ThreadMXBean) java.lang.management.ManagementFactory.getThreadMXBean();
        long id = Thread.currentThread().getId();
        SnowRoad x = new SnowRoad();
        use(x);
        long start = bean.getThreadAllocatedBytes(id);
        for (int i = 0; i < 200; i++) {
            use(x);
        }
        long made = bean.getThreadAllocatedBytes(id) - start;
        if (made > 20_000) {
            fault("200 rounds of calls made " + made + " bytes of objects");
        }
        start = bean.getThreadAllocatedBytes(id);
        x = new SnowRoad();
        made = bean.getThreadAllocatedBytes(id) - start;
        if (made > 40_000) {
            fault("a new object takes " + made + " bytes");
        }
    }

    private static void use(SnowRoad x) {
        x.type(0, 'c');
        x.type(1, '4');
        x.type(2, "a1e;".charAt(x.count(2) % 4));
        x.type(3, 'b');
        x.event(1, 2, 0);
        x.event(2, 3, 4);
        x.seen(3, 3, 0);
        x.sheet(0, 1, 60);
        x.read(0);
        x.write(3, 0);
        x.copy(0, 0, 0, 1, 9);
        x.digest();
        x.back();
    }
}
