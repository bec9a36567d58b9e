/** Promises 42 and 43: ACTS of things, their bodies, THE TRACE. */
public final class ActsTest {
    public static void main(String[] args) {
        branch();
        spur();
        bough();
        limb();
        bud();
        graft();
        wraps();
        partedBy0();
        nothingToAct();
        Check.end();
    }

    /** A tree whose last branch is of a kind and a force, on shelf 1, so that its number is n. */
    private static LastPruned thing(int kind, int n, int force) {
        LastPruned x = new LastPruned();
        for (int i = 0; i < n; i++) {
            x.branch(0, 0, 0, 0);
        }
        x.branch(kind, 0, force, 0);
        x.shelf(1, 0, n);
        return x;
    }

    private static void acts(LastPruned x, int act, int arg, int want, int... bodies) {
        Check.due("42: act(1, " + act + ", " + arg + ")", x.act(1, act, arg), want);
        Check.due("44: bodies", x.many(6), bodies.length);
        for (int i = 0; i < bodies.length; i++) {
            Check.due("43: trace(" + i + ") of act " + act, x.trace(i), bodies[i]);
        }
        Check.due("43: none behind", x.trace(bodies.length), LastPruned.NONE);
        Check.due("43: none before", x.trace(-1), LastPruned.NONE);
        Check.due("43: none far off", x.trace(Integer.MAX_VALUE), LastPruned.NONE);
    }

    private static void branch() {
        LastPruned x = thing(0, 2, 7);
        acts(x, 0, 5, 17, 10);
        acts(x, 1, 5, 10, 11, 10);
        acts(x, 2, 14, 2, 12);
        acts(x, 2, -14, -2, 12);
        acts(x, 3, 5, 10 ^ 17, 13, 11, 10);
        acts(thing(0, 3, 1), 2, 7, -3, 12);
    }

    private static void spur() {
        LastPruned x = thing(1, 2, 7);
        acts(x, 0, 5, 17, 10);
        acts(x, 1, 5, 20, 20, 11, 10);
        acts(x, 2, 14, 2, 12);
        acts(x, 3, 5, 20 ^ 17, 13, 20, 11, 10);
    }

    private static void bough() {
        LastPruned x = thing(2, 3, 1);
        acts(x, 0, 5, 17, 30, 10);
        acts(x, 1, 5, 16, 11, 30, 10);
        acts(x, 2, 14, -7, 12);
        // parts(3): 3 by (1 - 3)
        acts(x, 3, 5, (16 ^ 17) - 1, 31, 13, 11, 30, 10, 12);
    }

    private static void limb() {
        LastPruned x = thing(4, 3, 1);
        acts(x, 0, 5, -17, 40, 30, 10);
        // super.leans(5): -17 - 1; buds(1): 0 - (6 - 1)
        acts(x, 1, 5, -18 ^ -5, 41, 11, 40, 30, 10, 40, 30, 10);
        acts(x, 2, 14, -7, 12);
        acts(x, 3, 5, (-18 ^ -5 ^ 17) - 1, 31, 13, 41, 11, 40, 30, 10, 40, 30, 10, 12);
    }

    private static void bud() {
        LastPruned x = thing(3, 2, 7);
        acts(x, 0, 5, 19, 51, 10);
        acts(x, 1, 5, 24, 20, 11, 51, 10);
        // (14 - 7) by (7 - 2), and 9
        acts(x, 2, 14, 10, 50, 12);
        acts(x, 3, 5, 24 ^ 17, 13, 20, 11, 51, 10);
    }

    private static void graft() {
        LastPruned x = thing(5, 2, 7);
        acts(x, 0, 5, 17, 10);
        acts(x, 1, 5, 10, 11, 10);
        // 14 by 5, less buds(2)
        acts(x, 2, 14, 2 - 8, 61, 12, 10);
        acts(x, 3, 5, 70 - (10 ^ 17), 60, 13, 11, 10);
    }

    private static void wraps() {
        LastPruned x = thing(0, 1, 0);
        acts(x, 0, Integer.MAX_VALUE, Integer.MAX_VALUE * 3 + 1, 10);
        acts(x, 2, Integer.MIN_VALUE, Integer.MIN_VALUE, 12);
        acts(thing(1, 2, 9), 1, Integer.MIN_VALUE, (Integer.MIN_VALUE * 3 + 2 - 9) * 2, 20, 11, 10);
        acts(thing(3, 2, 9), 2, Integer.MIN_VALUE, (Integer.MIN_VALUE - 9) / 7 + 9, 50, 12);
    }

    /** The acts that come to parts() when FORCE is the number; no body begins behind that. */
    private static void partedBy0() {
        acts(thing(0, 2, 2), 2, 5, -15, 12);
        acts(thing(1, 2, 2), 2, 5, -15, 12);
        acts(thing(2, 2, 2), 2, 5, -15, 12);
        acts(thing(2, 2, 2), 3, 5, -15, 31, 13, 11, 30, 10, 12);
        acts(thing(3, 2, 2), 2, 5, -15, 50, 12);
        acts(thing(4, 2, 2), 3, 5, -15, 31, 13, 41, 11, 40, 30, 10, 40, 30, 10, 12);
        acts(thing(5, 2, 2), 2, 5, -15, 61, 12);
        acts(thing(0, 0, 0), 2, 0, -15, 12);
        LastPruned x = thing(0, 2, 2);
        acts(x, 3, 5, 15 ^ 17, 13, 11, 10);
        acts(x, 2, 5, -15, 12);
        acts(x, 0, 5, 17, 10);
    }

    private static void nothingToAct() {
        LastPruned x = thing(0, 2, 7);
        x.sheet(0, 0, 3);
        x.shelf(2, 1, 0);
        int[][] none = {{-1, 0}, {4, 0}, {1, -1}, {1, 4}, {0, 0}, {2, 0}, {Integer.MIN_VALUE, 0}, {1, Integer.MAX_VALUE}};
        for (int[] n : none) {
            x.act(1, 3, 5);
            Check.due("42: act(" + n[0] + ", " + n[1] + ", 5)", x.act(n[0], n[1], 5), 0);
            Check.due("42: no TRACE then", x.many(6), 0);
            Check.due("43: none", x.trace(0), LastPruned.NONE);
        }
        x.act(1, 0, 5);
        Check.told(x, "branch;");
        Check.due("43: THE TRACE stays until the next", x.trace(0), 10);
        Check.due("42: no such one at the time", x.act(1, 0, 5), 0);
        Check.due("42: no TRACE then", x.many(6), 0);
    }
}
