import java.lang.reflect.InvocationTargetException;
import java.lang.reflect.Method;
import java.lang.reflect.Modifier;
import java.util.ArrayList;
import java.util.Comparator;
import java.util.List;
import java.util.Random;

/** Any arguments in any state: no call throws. */
public final class WildCallsTest {
    private static final int RUNS = 300;
    private static final int CALLS = 2000;
    private static final int[] EDGES = {Integer.MIN_VALUE, Integer.MIN_VALUE + 1, -1000000, -1, 0, 1, 2, 3, 4, 5,
        6, 8, 9, 10, 11, 12, 19, 20, 21, 22, 29, 30, 31, 59, 60, 61, 89, 90, 91, 99, 100, 101, 180, 239, 240, 241,
        999, 1000, 1001, 1198, 1199, 1200, 9999, 10000, 10001, 100000, 100001, 1000000, 1000001,
        Integer.MAX_VALUE - 1, Integer.MAX_VALUE};

    public static void main(String[] args) throws IllegalAccessException {
        List<Method> acts = new ArrayList<>();
        for (Method m : DowryFund.class.getDeclaredMethods()) {
            if (Modifier.isPublic(m.getModifiers())) {
                acts.add(m);
            }
        }
        acts.sort(Comparator.comparing(Method::getName));
        for (int seed = 0; seed < RUNS; seed++) {
            run(acts, new Random(seed));
        }
    }

    private static void run(List<Method> acts, Random random) throws IllegalAccessException {
        DowryFund x = new DowryFund();
        for (int i = 0; i < CALLS; i++) {
            Method act = acts.get(random.nextInt(acts.size()));
            Object[] args = new Object[act.getParameterCount()];
            for (int k = 0; k < args.length; k++) {
                boolean asked = act.getParameterTypes()[k] == boolean.class;
                args[k] = asked ? (Object) random.nextBoolean() : (Object) wild(random);
            }
            try {
                act.invoke(x, args);
            } catch (InvocationTargetException e) {
                System.out.println(act.getName() + java.util.Arrays.toString(args) + " threw " + e.getCause());
                System.exit(1);
            }
        }
    }

    private static int wild(Random random) {
        int r = random.nextInt(10);
        if (r == 0) {
            return random.nextInt();
        }
        return r < 5 ? random.nextInt(12) : EDGES[random.nextInt(EDGES.length)];
    }
}
