import java.lang.reflect.InvocationTargetException;
import java.lang.reflect.Method;
import java.util.ArrayList;
import java.util.Arrays;
import java.util.Comparator;
import java.util.List;
import java.util.Random;

/** Long runs of drawn calls, each answered by the program and by the Oracle alike. */
public final class RandomRunsTest {
    private static final int RUNS = 400, CALLS = 512;
    private static final int[] EDGES = {-1, 0, 1, 2, 3, 6, 8, 9, 10, 11, 13, 14, 19, 20, 21, 30, 31,
        39, 40, 41, 59, 60, 61, 98, 99, 100, 101, 127, 128, 200, 255, 9999, 10000, 32767, 32768, 65535,
        Integer.MIN_VALUE, Integer.MAX_VALUE, Integer.MIN_VALUE + 1};
    private static final String[] WORDS = {"branch", "spur", "bough", "bud", "limb", "graft", "on",
        "force", "age", "cut", "shade", "sun", "rain", "frost", ";", "3", "0", "10", "100", "0007", " ",
        "x", "Cut", "\u00e9", ";;", "on0", "br", "\n"};

    private final Random random;
    private final LastPruned program = new LastPruned();
    private final Oracle oracle = new Oracle();
    private final List<Method[]> pairs;
    private final List<String> log = new ArrayList<>();
    private final int run;
    private int calls = 0;
    private boolean isRight = true;

    private RandomRunsTest(int run, List<Method[]> pairs) {
        this.run = run;
        this.random = new Random(run * 7919L + 1);
        this.pairs = pairs;
    }

    public static void main(String[] args) throws Exception {
        List<Method[]> pairs = pairs();
        Check.due("methods", pairs.size(), 45);
        for (int run = 0; run < RUNS; run++) {
            new RandomRunsTest(run, pairs).play();
        }
        Check.end();
    }

    private static List<Method[]> pairs() throws NoSuchMethodException {
        List<Method[]> list = new ArrayList<>();
        for (Method m : LastPruned.class.getMethods()) {
            if (m.getDeclaringClass() == LastPruned.class) {
                list.add(new Method[] {m, Oracle.class.getDeclaredMethod(m.getName(), m.getParameterTypes())});
            }
        }
        list.sort(Comparator.comparing(pair -> pair[0].getName()));
        return list;
    }

    private void play() throws Exception {
        if (run % 4 != 0) {
            tellTree();
        }
        while (calls < CALLS && isRight) {
            int dice = random.nextInt(100);
            if (dice < 1) {
                tellTree();
            } else if (dice < 8) {
                call("branch", random.nextInt(6), random.nextInt(9), random.nextInt(10), random.nextInt(100));
            } else if (dice < 12) {
                actAndTrace();
            } else if (dice < 14) {
                fillToFit();
            } else if (dice < 16) {
                callShare();
            } else {
                drawn();
            }
        }
    }

    private void drawn() throws Exception {
        Method m = pairs.get(random.nextInt(pairs.size()))[0];
        if (m.getName().equals("tree") && random.nextInt(4) > 0) {
            return;
        }
        Object[] args = new Object[m.getParameterCount()];
        for (int i = 0; i < args.length; i++) {
            args[i] = m.getParameterTypes()[i] == long.class ? (Object) random.nextLong() : (Object) number();
        }
        call(m.getName(), args);
    }

    private int number() {
        int dice = random.nextInt(20);
        if (dice < 14) {
            return random.nextInt(random.nextBoolean() ? 4 : 9);
        }
        return dice < 17 ? EDGES[random.nextInt(EDGES.length)]
            : dice < 19 ? random.nextInt(64) - 2 : random.nextInt();
    }

    private void actAndTrace() throws Exception {
        int branch = random.nextInt(8);
        call("mind", branch, random.nextInt(6), random.nextInt(10));
        call("shelf", random.nextInt(4), 0, branch);
        call("act", random.nextInt(4), random.nextInt(4), random.nextBoolean() ? number() : random.nextInt());
        for (int i = 0; i < 12; i++) {
            call("trace", i);
        }
        call("many", 6);
    }

    /** Numbers of a row that a force of a branch could have told, so that some fit. */
    private void fillToFit() throws Exception {
        int sheet = random.nextInt(4);
        int n = random.nextInt(5);
        int branch = random.nextInt(8);
        call("sheet", sheet, random.nextInt(4), n);
        for (int i = 0; i < n; i++) {
            int told = oracle.harvest(i + 1);
            call("put", sheet, i, random.nextInt(3) == 0 ? -1 : told + (random.nextInt(8) == 0 ? 1 : 0));
        }
        call("mind", branch, random.nextInt(6), random.nextInt(10));
        call("fits", sheet, branch, 0);
        call("fits", sheet, branch, 1);
    }

    private void callShare() throws Exception {
        for (int b = 0; b < 8; b++) {
            call("does", b, random.nextInt(3));
            call("freeFor", b, random.nextInt(15));
            call("kindFor", b, 1 + random.nextInt(20));
            call("regret", b, 1 + random.nextInt(20));
            call("forceFor", b, 1 + random.nextInt(20), random.nextInt(300));
        }
        call("cutsFor", 1 + random.nextInt(10));
        call("cutFor", 1 + random.nextInt(20));
    }

    private void tellTree() throws Exception {
        StringBuilder text = new StringBuilder();
        int n = random.nextInt(10);
        for (int i = 0; i < n; i++) {
            text.append(random.nextInt(4) == 0 ? law() : branch(i));
        }
        if (random.nextInt(3) == 0) {
            spoil(text);
        }
        for (int i = 0; i < text.length(); i += 8) {
            int many = Math.min(8, text.length() - i);
            call("feed", Check.packed(text.toString(), i, many), many);
        }
        call("tree");
        call("many", 0);
        call("state", 2);
    }

    private String law() {
        return WORDS[10 + random.nextInt(4)] + " " + random.nextInt(random.nextInt(6) == 0 ? 101 : 10) + ";";
    }

    private String branch(int there) {
        String text = WORDS[random.nextInt(6)];
        text += there > 0 && random.nextInt(3) > 0 ? " on " + random.nextInt(there) : "";
        text += random.nextInt(4) > 0 ? " force " + random.nextInt(10) : "";
        text += random.nextInt(3) == 0 ? " age " + random.nextInt(100) : "";
        text += random.nextInt(5) == 0 ? " cut" : "";
        return text + (random.nextInt(4) == 0 ? " ; " : ";");
    }

    private void spoil(StringBuilder text) {
        int times = 1 + random.nextInt(2);
        for (int i = 0; i < times; i++) {
            int at = random.nextInt(text.length() + 1);
            switch (random.nextInt(3)) {
                case 0: text.insert(at, WORDS[random.nextInt(WORDS.length)]); break;
                case 1: text.delete(at, Math.min(text.length(), at + 1 + random.nextInt(3))); break;
                default: text.insert(at, " " + WORDS[random.nextInt(WORDS.length)] + " "); break;
            }
        }
    }

    private void call(String name, Object... args) throws Exception {
        if (!isRight || calls >= CALLS) {
            return;
        }
        calls++;
        for (Method[] pair : pairs) {
            if (pair[0].getName().equals(name)) {
                compare(pair, args);
            }
        }
    }

    private void compare(Method[] pair, Object[] args) throws Exception {
        String told = pair[0].getName() + Arrays.toString(args);
        log.add(told);
        try {
            long want = ((Number) pair[1].invoke(oracle, args)).longValue();
            long got = ((Number) pair[0].invoke(program, args)).longValue();
            isRight = got == want;
            Check.due("run " + run + ", call " + calls + ": " + told, got, want);
        } catch (InvocationTargetException thrown) {
            isRight = false;
            Check.due("run " + run + ": " + told + " threw " + thrown.getCause(), 0, 1);
        }
        if (!isRight) {
            System.out.println("  behind: " + log.subList(Math.max(0, log.size() - 12), log.size()));
        }
    }
}
