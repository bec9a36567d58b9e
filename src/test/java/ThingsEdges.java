/** The sentences of Terms, part 3: ROWS, ACTS and THE TRACE, SHEETS and SHELVES. */
final class ThingsEdges {
    private static final int BAD = LastPruned.BAD, NONE = LastPruned.NONE;
    private static final int MOST = Integer.MAX_VALUE, LEAST = Integer.MIN_VALUE;
    /** What times 3 is 1, as ints wrap. */
    private static final int BY_3 = 0xAAAAAAAB;
    private static final int BUDS = 0, LEANS = 1, PARTS = 2, FALLS = 3;

    private ThingsEdges() {
    }

    static void all() {
        rows();
        reader();
        acts();
        wraps();
        held();
        branch();
        partsBy0();
        spurAndBough();
        limbBudAndGraft();
        trace();
        sheets();
        shelves();
    }

    private static LastPruned of(String text) {
        return Check.ofText(text);
    }

    private static void rows() {
        LastPruned x = of("spur force 3; branch on 0 force 4 cut; branch on 1 force 2;");
        Sentence s = Sentence.ofTerms("3 ROWS of one: (FORCE, 1 if it STANDS, else 0, what all bore in that YEAR)"
            + " behind 1, 2, .. n YEARS, tried.");
        s.due("of the spur", x.prove(0, 10), 10);
        int[] force = {5, 7, 9, 9, 9, 9, 9, 9, 9, 9};
        int[] borne = {4, 6, 8, 10, 10, 10, 10, 10, 10, 10};
        for (int i = 0; i < 10; i++) {
            s.due("FORCE behind " + (i + 1), x.row(i, 0), force[i]);
            s.due("STANDS behind " + (i + 1), x.row(i, 1), 1);
            s.due("what all bore in YEAR " + i, x.row(i, 2), borne[i]);
        }
        s.due("of one that is CUT", x.prove(1, 1), 1).due("FORCE", x.row(0, 0), 4);
        s.due("it doesn't STAND", x.row(0, 1), 0).due("what all bore", x.row(0, 2), 4);
        s.due("of one ON it", x.prove(2, 1), 1).due("it doesn't STAND", x.row(0, 1), 0);
        s.due("tried: YEAR", x.state(0), 0).due("tried: FORCE", x.of(0, 2), 3).due("tried: LIES", x.of(1, 5), 0);
    }

    private static void reader() {
        LastPruned x = of("branch force 1; branch on 0 force 1; branch on 0 force 2;");
        Sentence s = Sentence.ofTerms("THE READER takes ROWS as those of one, from how it is now: right is one that is as it must be.")
            .due("no ROWS", x.judge(0), 0)
            .due("its own", x.prove(0, 10) == 10 ? x.judge(0) : -1, 0)
            .due("those of one that is alike", x.judge(1), 0)
            .due("those of another", x.judge(2), 1);
        for (int i = 0; i < 10; i += 9) {
            for (int what = 0; what < 3; what++) {
                int was = x.row(i, what);
                x.alterRow(i, what, was + 1);
                s.due("ROW " + i + ", " + what + ": one more", x.judge(0), i + 1);
                x.alterRow(i, what, was - 1);
                s.due("ROW " + i + ", " + what + ": one less", x.judge(0), i + 1);
                x.alterRow(i, what, was);
                s.due("ROW " + i + ", " + what + ": as it was", x.judge(0), 0);
            }
        }
        s.due("from how it is now", x.years(1) > 0 ? x.judge(0) : -1, 1);
    }

    /** A tree whose last branch is of a kind and a force, on shelf 1, so that its number is n. */
    private static LastPruned thing(int kind, int n, int force) {
        LastPruned x = new LastPruned();
        for (int i = 0; i < n; i++) {
            x.branch(0, 0, 0, 0);
        }
        x.branch(kind, 0, force, 0);
        x.shelf(1, 0, n);
        return x;
    }

    private static int act(int kind, int n, int force, int act, int x) {
        return thing(kind, n, force).act(1, act, x);
    }

    private static void acts() {
        LastPruned x = thing(0, 2, 7);
        Sentence.ofTerms("ACTS of things, with a number x (ints that wrap): 0 buds, 1 leans, 2 parts, 3 falls.")
            .due("0", x.act(1, 0, 5), 17)
            .due("1", x.act(1, 1, 5), 10)
            .due("2", x.act(1, 2, 5), 1)
            .due("3", x.act(1, 3, 5), 10 ^ 17)
            .due("-1", x.act(1, -1, 5), 0)
            .due("4", x.act(1, 4, 5), 0);
    }

    private static void wraps() {
        Sentence.ofTerms("ACTS of things, with a number x (ints that wrap): 0 buds, 1 leans, 2 parts, 3 falls.")
            .due("10 to the most", act(0, 1, 0, BUDS, (MOST - 1) * BY_3), MOST)
            .due("10 past the most", act(0, 1, 0, BUDS, MOST * BY_3), LEAST)
            .due("10, x times 3", act(0, 0, 0, BUDS, MOST), MOST - 2)
            .due("11 to the least", act(0, 0, 9, LEANS, (LEAST + 9) * BY_3), LEAST)
            .due("11 past the least", act(0, 0, 9, LEANS, (LEAST + 8) * BY_3), MOST)
            .due("12, the least by -1", act(0, 1, 0, PARTS, LEAST), LEAST)
            .due("12, the most by -1", act(0, 1, 0, PARTS, MOST), -MOST)
            .due("20 past the most", act(1, 0, 0, LEANS, 0x40000000 * BY_3), LEAST)
            .due("20 wholly past", act(1, 0, 0, LEANS, LEAST * BY_3), 0)
            .due("30 past the least", act(2, 0, 0, BUDS, LEAST * BY_3), MOST)
            // super.falls(x) is the most, parts(1) is 1 by 1
            .due("31 past the most", act(2, 1, 2, FALLS, ((MOST ^ 17) + 2) * BY_3), LEAST)
            .due("40, less the least", act(4, 1, 0, BUDS, LEAST * BY_3), LEAST)
            .due("50, x less a past the least", act(3, 1, 2, PARTS, LEAST + 1), LEAST + 8)
            .due("50 past the most", act(3, 1, 2, PARTS, LEAST), MOST - 1 + 9)
            .due("51 past the most", act(3, 2, 0, BUDS, (MOST - 2) * BY_3), LEAST + 1)
            .due("60 past the most", act(5, 0, 0, FALLS, (LEAST ^ 17) * BY_3), LEAST + 70)
            .due("61 past the least", act(5, 1, 2, PARTS, LEAST), MOST - 3);
    }

    private static void held() {
        LastPruned x = thing(0, 2, 7);
        Sentence.ofTerms("One of the BRANCHES is held as a thing of the KIND; n: the number, a: FORCE.")
            .due("n 2", x.act(1, BUDS, 0), 2)
            .due("a 7", x.act(1, LEANS, 0), 2 - 7)
            .due("FORCE 0", x.mind(2, 0, 0) == 0 ? x.act(1, LEANS, 0) : -1, 2)
            .due("FORCE 9", x.mind(2, 0, 9) == 0 ? x.act(1, LEANS, 0) : -1, 2 - 9)
            .due("a spur from now on", x.mind(2, 1, 9) == 0 ? x.act(1, LEANS, 0) : -1, 2 * (2 - 9))
            .due("one that is CUT", x.cut(2) == 2 ? x.act(1, LEANS, 0) : -1, 2 * (2 - 9))
            .due("n 0", thing(0, 0, 7).act(1, BUDS, 0), 0)
            .due("n 7", thing(0, 7, 0).act(1, BUDS, 0), 7);
    }

    /** One body's number behind the other, as THE TRACE has them. */
    private static long traced(LastPruned x) {
        long all = 0;
        for (int i = 0; i < x.many(6) && i < 9; i++) {
            all = all * 100 + x.trace(i);
        }
        return all;
    }

    private static void acted(Sentence s, LastPruned x, int act, int arg, int want, long bodies) {
        s.due("act(1, " + act + ", " + arg + ")", x.act(1, act, arg), want);
        s.due("bodies of act " + act, traced(x), bodies);
    }

    private static void branch() {
        Sentence s = Sentence.ofTerms("BODIES, each with its number: branch: 10 buds: x * 3 + n. 11 leans: buds(x) - a.");
        acted(s, thing(0, 2, 7), BUDS, 5, 17, 10);
        acted(s, thing(0, 2, 7), LEANS, 5, 10, 1110);
        acted(s, thing(2, 2, 7), LEANS, 5, 9, 113010);
        Sentence falls = Sentence.ofTerms("13 falls: leans(x) ^ 17.");
        acted(falls, thing(0, 2, 7), FALLS, 5, 10 ^ 17, 131110);
        acted(falls, thing(1, 2, 7), FALLS, 5, 20 ^ 17, 13201110);
        acted(falls, thing(0, 2, 7), FALLS, -5, -20 ^ 17, 131110);
    }

    private static void partsBy0() {
        Sentence s = Sentence.ofTerms("12 parts: x by (a - n), cut (-15 if these are the same; that is all that act() answers then).");
        s.due("a 1 more", act(0, 4, 5, PARTS, 7), 7).due("a 1 less", act(0, 4, 3, PARTS, 7), -7);
        s.due("cut", act(0, 4, 6, PARTS, 7), 3).due("cut, below 0", act(0, 4, 6, PARTS, -7), -3);
        s.due("the same", act(0, 4, 4, PARTS, 7), -15).due("the same, 0", act(0, 0, 0, PARTS, 0), -15);
        s.due("the same, 7", act(0, 7, 7, PARTS, LEAST), -15);
        s.due("spur", act(1, 4, 4, PARTS, 7), -15).due("bough", act(2, 4, 4, PARTS, 7), -15);
        s.due("limb", act(4, 4, 4, PARTS, 7), -15);
        s.due("bud, not 9 more", act(3, 4, 4, PARTS, 7), -15);
        s.due("graft, not less buds", act(5, 4, 4, PARTS, 7), -15);
        s.due("bough that falls", act(2, 4, 4, FALLS, 7), -15).due("limb that falls", act(4, 4, 4, FALLS, 7), -15);
        s.due("branch that falls: nothing is parted", act(0, 4, 4, FALLS, 7), (7 * 3 + 4 - 4) ^ 17);
        s.due("graft that falls: nothing is parted", act(5, 4, 4, FALLS, 7), 70 - ((7 * 3 + 4 - 4) ^ 17));
        LastPruned x = thing(2, 2, 2);
        s.due("the act behind it", x.act(1, FALLS, 5) == -15 ? x.act(1, LEANS, 5) : -1, 3 * 5 + 2 - 1 - 2);
        s.due("FORCE stays", x.of(2, 2), 2);
    }

    private static void spurAndBough() {
        Sentence spur = Sentence.ofTerms("spur: 20 leans: super.leans(x) * 2.");
        acted(spur, thing(1, 2, 7), BUDS, 5, 17, 10);
        acted(spur, thing(1, 2, 7), LEANS, 5, 20, 201110);
        acted(spur, thing(1, 2, 7), PARTS, 14, 2, 12);
        Sentence bough = Sentence.ofTerms("bough: 30 buds: super.buds(x) - 1. 31 falls: super.falls(x) + parts(n).");
        acted(bough, thing(2, 3, 1), BUDS, 5, 17, 3010);
        acted(bough, thing(2, 3, 1), PARTS, 14, -7, 12);
        // parts(3): 3 by (1 - 3)
        acted(bough, thing(2, 3, 1), FALLS, 5, (16 ^ 17) - 1, 311311301012L);
    }

    private static void limbBudAndGraft() {
        Sentence limb = Sentence.ofTerms("limb: 40 buds: 0 - super.buds(x). 41 leans: super.leans(x) ^ buds(a).");
        acted(limb, thing(4, 3, 1), BUDS, 5, -17, 403010);
        acted(limb, thing(4, 3, 1), LEANS, 5, -18 ^ -5, 4111403010403010L);
        acted(limb, thing(4, 3, 1), FALLS, 5, (-18 ^ -5 ^ 17) - 1, 311341114030104030L);
        Sentence bud = Sentence.ofTerms("bud: 50 parts: super.parts(x - a) + 9. 51 buds: super.buds(x) + n.");
        acted(bud, thing(3, 2, 7), BUDS, 5, 19, 5110);
        acted(bud, thing(3, 2, 7), PARTS, 14, 10, 5012);
        acted(bud, thing(3, 2, 7), LEANS, 5, 24, 20115110);
        acted(bud, thing(3, 2, 7), FALLS, 5, 24 ^ 17, 1320115110L);
        Sentence graft = Sentence.ofTerms("graft: 60 falls: 70 - super.falls(x). 61 parts: super.parts(x) - buds(n).");
        acted(graft, thing(5, 2, 7), LEANS, 5, 10, 1110);
        acted(graft, thing(5, 2, 7), PARTS, 14, 2 - 8, 611210);
        acted(graft, thing(5, 2, 7), FALLS, 5, 70 - (10 ^ 17), 60131110);
    }

    /** Thirty are never reached: the longest act there is has eleven bodies. */
    private static void trace() {
        LastPruned x = thing(4, 3, 1);
        Sentence s = Sentence.ofTerms("THE TRACE: numbers of the bodies that ran in the latest act(), as they began (left first);"
                + " the first 30 are kept.")
            .due("at first", x.many(6), 0)
            .due("at first: none", x.trace(0), NONE);
        x.act(1, FALLS, 5);
        int[] bodies = {31, 13, 41, 11, 40, 30, 10, 40, 30, 10, 12};
        s.due("the longest", x.many(6), bodies.length);
        for (int i = 0; i < bodies.length; i++) {
            s.due("body " + i, x.trace(i), bodies[i]);
        }
        s.due("none behind", x.trace(bodies.length), NONE);
        s.due("of the latest alone", x.act(1, BUDS, 0) == -2 ? x.many(6) : -1, 3);
        s.due("its first", x.trace(0), 40).due("none behind its last", x.trace(3), NONE);
        s.due("no act: none", x.act(0, BUDS, 0), 0).due("none of the latest", x.many(6), 0);
        LastPruned parted = thing(5, 2, 2);
        s.due("parted by 0", parted.act(1, PARTS, 5), -15).due("those that began", traced(parted), 6112);
        parted = thing(4, 2, 2);
        s.due("parted by 0, the last", parted.act(1, FALLS, 5), -15).due("all eleven", parted.many(6), 11);
    }

    private static void sheets() {
        LastPruned x = new LastPruned();
        Sentence s = Sentence.ofTerms("SHEETS 0 to 3 are rows of bytes (sort 0), shorts (1), ints (2) or longs (3), 40 at most,"
            + " or missing (at first).");
        for (int sheet = 0; sheet < 4; sheet++) {
            s.due("missing at first", x.item(sheet, 0, 0), -11);
        }
        s.keepsTo("sheet", 0, 3, (y, v) -> y.sheet(v, 0, 1));
        s.keepsTo("sort", -1, 3, (y, v) -> y.sheet(0, v, 1));
        int[] most = {127, 32767, MOST, MOST};
        int[] past = {-128, -32768, LEAST, LEAST};
        for (int sort = 0; sort < 4; sort++) {
            s.due("forty", x.sheet(sort, sort, 40), 1).due("forty-one", x.sheet(sort, sort, 41), BAD);
            s.due("the fortieth", x.put(sort, 39, most[sort]), 1).due("it", x.item(sort, sort, 39), most[sort]);
            s.due("a forty-first", x.put(sort, 40, 1), -12).due("none such", x.item(sort, sort, 40), -12);
            s.due("one past the most", x.put(sort, 0, most[sort] + 1), 1).due("wraps", x.item(sort, sort, 0), past[sort]);
            s.due("the other ones stay 0", x.item(sort, sort, 1), 0);
        }
    }

    private static void shelves() {
        LastPruned x = of("branch; branch; spur;");
        Sentence s = Sentence.ofTerms("SHELVES 0 to 3 hold one of the BRANCHES (by its number; nothing, if there is no such one"
                + " at the time), a SHEET's row, or nothing (at first).");
        for (int shelf = 0; shelf < 4; shelf++) {
            s.due("nothing at first", x.taken(shelf, 0), -11).due("no act of it", x.act(shelf, 0, 1), 0);
        }
        s.keepsTo("shelf", 0, 3, (y, v) -> y.shelf(v, 2, 0));
        x.keep();
        x.shelf(0, 0, 2);
        s.due("the last", x.taken(0, 1), 2);
        s.due("no such one at the time", Check.told(x, "bud; bud;") == 2 ? x.taken(0, 0) : -1, -11);
        s.due("no act of it", x.act(0, BUDS, 1), 0).due("no TRACE", x.many(6), 0);
        s.due("one of another KIND", x.branch(5, 0, 0, 0) == 2 ? x.taken(0, 5) : -1, 2);
        s.due("an act of it", x.act(0, BUDS, 1), 5);
        s.due("what was kept", x.again() == 3 ? x.taken(0, 1) : -1, 2).due("no graft any more", x.taken(0, 5), -13);
        x.sheet(0, 0, 40);
        x.sheet(1, 3, 0);
        s.due("a row", x.shelf(3, 1, 0), 1).due("of forty", x.taken(3, 10), 40).due("no act of it", x.act(3, 0, 1), 0);
        s.due("a row of none", x.shelf(3, 1, 1) == 1 ? x.taken(3, 13) : -1, 0);
        s.due("nothing once more", x.shelf(3, 2, 0) == 1 ? x.taken(3, 13) : -1, -11);
        s.due("a row where one was held", x.shelf(0, 1, 0) == 1 ? x.taken(0, 10) : -1, 40);
        s.due("it is held though there are no BRANCHES", x.tree() == 0 ? x.taken(0, 10) : -1, 40);
        s.due("a row held at first", x.shelf(1, 1, 1) == 1 ? x.taken(1, 13) : -1, 0);
    }
}
