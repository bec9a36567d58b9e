/**
 * What all tests use: counts and prints every answer that is not the one that is due. It is public for
 * the class that ReadmeTest makes, which another loader loads.
 */
public final class Check {
    private static int right = 0;
    private static int wrong = 0;

    private Check() {
    }

    public static void due(String call, long got, long want) {
        if (got == want) {
            right++;
            return;
        }
        wrong++;
        if (wrong <= 40) {
            System.out.println(call + " answered " + got + ", due is " + want);
        }
    }

    /** To be called last in main. */
    static void end() {
        System.out.println(right + " answers as due, " + wrong + " not");
        if (wrong != 0 || right == 0) {
            System.exit(1);
        }
    }

    static int feedAll(LastPruned x, String text) {
        int answer = 0;
        for (int i = 0; i < text.length(); i += 8) {
            int n = Math.min(8, text.length() - i);
            answer = x.feed(packed(text, i, n), n);
        }
        return answer;
    }

    static long packed(String text, int from, int n) {
        long eight = 0;
        for (int k = 0; k < n; k++) {
            eight |= (long) (text.charAt(from + k) & 255) << 8 * k;
        }
        return eight;
    }

    /** What tree() answers to a text. */
    static int told(LastPruned x, String text) {
        feedAll(x, text);
        return x.tree();
    }

    static LastPruned ofText(String text) {
        LastPruned x = new LastPruned();
        due("tree() of a text that is right: " + text, told(x, text) >= 0 ? 1 : 0, 1);
        return x;
    }
}
