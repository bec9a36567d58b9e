import java.lang.reflect.InvocationTargetException;
import java.lang.reflect.Method;
import java.util.Arrays;
import java.util.List;
import java.util.function.Supplier;

/**
 * Terms: "such a call changes nothing": every call with numbers from around every bound of the document,
 * each on an object of its own. None throws; those that are refused, and those that only ask, change nothing.
 */
public final class RefusalsTest {
    private static final int MOST = Integer.MAX_VALUE, LEAST = Integer.MIN_VALUE;
    private static final int[] MANY = {LEAST, LEAST + 1, -129, -16, -2, -1, 0, 1, 2, 3, 4, 5, 6, 7, 8, 9, 10, 11, 12, 13,
        14, 15, 19, 20, 21, 29, 30, 31, 39, 40, 41, 59, 60, 61, 98, 99, 100, 101, 9999, 10000, MOST - 1, MOST};
    private static final int[] FEW = {LEAST, -1, 0, 1, 3, 4, 5, 8, 9, 10, 41, 100, MOST};
    private static final int[] FEWEST = {LEAST, -1, 0, 1, 4, 5, 9, 41, MOST};
    /** Their answers below 0 are no refusals, or, of tree(), change THE TAPE. */
    private static final List<String> NEVER_REFUSING = List.of("seed", "act", "tree", "alterRow");
    private static final List<String> ASKING = List.of("lawOf", "of", "does", "stem", "winters", "state", "harvest", "bare",
        "ripe", "cutFor", "cutsFor", "kindFor", "forceFor", "regret", "freeFor", "fits", "odds", "hope", "row", "judge",
        "item", "taken", "trace", "many");

    private final String state;
    private final Supplier<LastPruned> made;
    private final String untouched;
    private int refused = 0;

    private RefusalsTest(String state, Supplier<LastPruned> made) {
        this.state = state;
        this.made = made;
        this.untouched = Whole.all(made.get());
    }

    public static void main(String[] args) throws Exception {
        new RefusalsTest("a new one", LastPruned::new).play();
        new RefusalsTest("five BRANCHES", Whole::few).play();
        new RefusalsTest("eight BRANCHES", Whole::full).play();
        new RefusalsTest("a TAPE of 197", () -> Whole.few("bud;" + " ".repeat(193))).play();
        Check.end();
    }

    private void play() throws Exception {
        for (Method m : LastPruned.class.getMethods()) {
            if (m.getDeclaringClass() == LastPruned.class) {
                each(m, new Object[m.getParameterCount()], 0);
            }
        }
        Check.due(state + ": many were refused", refused > 1000 ? 1 : 0, 1);
    }

    private void each(Method m, Object[] args, int at) throws Exception {
        if (at == args.length) {
            tryOne(m, args);
            return;
        }
        for (int v : args.length <= 2 ? MANY : args.length == 3 ? FEW : FEWEST) {
            args[at] = m.getParameterTypes()[at] == long.class ? (Object) (long) v : (Object) v;
            each(m, args, at + 1);
        }
    }

    private void tryOne(Method m, Object[] args) throws Exception {
        LastPruned x = made.get();
        String told = state + ": " + m.getName() + Arrays.toString(args);
        try {
            long answer = ((Number) m.invoke(x, args)).longValue();
            boolean isRefused = answer < 0 && !NEVER_REFUSING.contains(m.getName())
                || answer == -9 && m.getName().equals("alterRow");
            refused += isRefused ? 1 : 0;
            if (isRefused || ASKING.contains(m.getName())) {
                Check.due(told + " changes nothing", Whole.all(x).equals(untouched) ? 1 : 0, 1);
            }
        } catch (InvocationTargetException thrown) {
            Check.due(told + " threw " + thrown.getCause(), 0, 1);
        }
    }
}
