/** Promises 1 to 19: the new object, THE TAPE, LAWS, BRANCHES, cuts, YEARS. */
final class PromiseEdges {
    private static final int BAD = LastPruned.BAD, FULL = LastPruned.FULL, NONE = LastPruned.NONE;

    private PromiseEdges() {
    }

    static void all() {
        newObject();
        feed();
        tree();
        laws();
        branch();
        of();
        does();
        stem();
        mind();
        age();
        graft();
        cut();
        back();
        years();
        draws();
        state();
    }

    private static void newObject() {
        LastPruned x = new LastPruned();
        Sentence.of(1, "No BRANCHES; nothing is kept.")
            .due("how many", x.many(0), 0)
            .due("none STANDS", x.state(2), 0)
            .due("no BRANCH 0", x.of(0, 0), BAD)
            .due("nothing is kept", x.again(), NONE)
            .due("the first that comes", x.branch(0, 0, 0, 0), 0)
            .due("no ROWS", x.many(4), 0)
            .due("no bytes", x.many(5), 0)
            .due("no bodies", x.many(6), 0)
            .due("another has none of them", new LastPruned().many(0), 0)
            .due("nor what this one keeps", x.keep() == 1 ? new LastPruned().again() : -1, NONE);
    }

    private static void feed() {
        LastPruned x = new LastPruned();
        Sentence.of(2, "n bytes (1 to 8) come to THE TAPE, the lowest of eight first: how many it has.")
            .keepsTo("n", 1, 8, (y, v) -> y.feed(0x2020202020202020L, v))
            .due("one", x.feed(0x62, 1), 1)
            .due("two more, the rest of eight doesn't count", x.feed(0x7878787878786475L, 2), 3)
            .due("eight more", x.feed(0x202020202020203bL, 8), 11)
            .due("how many", x.many(5), 11)
            .due("bud; and seven blanks", x.tree(), 1)
            .due("a bud", x.of(0, 0), 3)
            .due("eight, the highest last", x.feed(0x7820202020202020L, 8), 8)
            .due("the highest is there", x.tree(), -107);
        Sentence.of(2, "BAD; FULL: more than 200.")
            .refuses("BAD: n 0", BAD, y -> y.feed(1, 0))
            .refuses("BAD: n 9", BAD, y -> y.feed(1, 9))
            .refuses("FULL: 201", FULL, Whole::full, y -> y.feed(0x78, 1))
            .refuses("FULL: 208", FULL, Whole::full, y -> y.feed(0x78, 8))
            .refuses("BAD before FULL: n 0", BAD, Whole::full, y -> y.feed(0x78, 0))
            .refuses("BAD before FULL: n 9", BAD, Whole::full, y -> y.feed(0x78, 9))
            .refuses("FULL: 201 from 195", FULL, () -> Whole.few(" ".repeat(195)), y -> y.feed(0x78, 6))
            .due("200 from 195", Whole.few(" ".repeat(195)).feed(0x20, 5), 200);
    }

    private static void tree() {
        LastPruned x = Whole.full();
        Sentence.of(3, "THE TAPE becomes all: how many BRANCHES; -100 less its FAULT.")
            .due("one", x.tree(), 1)
            .due("one is there", x.many(0), 1)
            .due("it is by THE TAPE alone", x.of(0, 0) * 100 + x.of(0, 2) * 10 + x.of(0, 3), 300)
            .due("none", x.tree(), 0)
            .due("none is there", x.many(0), 0)
            .due("eight", Check.told(x, "bud;bud;bud;bud;bud;bud;bud;bud;"), 8)
            .due("FAULT 0", Check.told(x, "x"), -100)
            .due("FAULT 1", Check.told(x, " x"), -101)
            .due("FAULT 199", Check.told(x, " ".repeat(199) + "x"), -299)
            .due("FAULT 200, the end", Check.told(x, " ".repeat(195) + "sun 4"), -300)
            .due("eight stay", x.many(0), 8);
        othersStay();
        LastPruned faulty = Whole.few("twig");
        Sentence.of(3, "There are no ROWS then.")
            .due("ROWS before", Whole.few().many(4), 3)
            .due("none then", rowsBehindTree(""), 0)
            .due("none then, one told", rowsBehindTree("bud;"), 0)
            .due("a FAULT changes nothing", faulty.tree() == -100 ? faulty.many(4) : -1, 3);
        LastPruned none = Whole.few("bud;");
        none.tree();
        Sentence.of(3, "There are no ROWS then.")
            .due("no ROW 0", none.row(0, 0), -9)
            .due("none to be altered", none.alterRow(0, 0, 1), -9)
            .due("all is right", none.judge(0), 0)
            .due("some once more", none.prove(0, 2) == 2 ? none.many(4) : -1, 2);
    }

    /** What is no part of the tree outlives tree(). */
    private static void othersStay() {
        LastPruned x = Whole.few("bud; bud;");
        Sentence.of(3, "THE TAPE becomes all: how many BRANCHES;")
            .due("two", x.tree(), 2)
            .due("SHEETS stay", x.item(0, 0, 3), 12)
            .due("SHELVES stay: a row", x.taken(1, 10), 4)
            .due("SHELVES stay: number 1, a bud now", x.taken(0, 3), 1)
            .due("SHELVES stay: no number 3 now", x.taken(3, 0), -11)
            .due("THE TRACE stays", x.many(6), 4)
            .due("z stays", x.seed(0), 4711)
            .due("what is kept stays", x.again(), 1)
            .due("what is kept: SHADE", x.lawOf(0), 5);
    }

    private static int rowsBehindTree(String text) {
        LastPruned x = Whole.few(text);
        x.tree();
        return x.many(4);
    }

    private static void laws() {
        LastPruned x = new LastPruned();
        Sentence.of(4, "A LAW becomes v: what it was. BAD.")
            .keepsTo("law", 0, 3, (y, v) -> y.set(v, 1))
            .keepsTo("SHADE", 0, 9, (y, v) -> y.set(0, v))
            .keepsTo("SUN", 0, 9, (y, v) -> y.set(1, v))
            .keepsTo("RAIN", 0, 9, (y, v) -> y.set(2, v))
            .keepsTo("FROST", 0, 99, (y, v) -> y.set(3, v))
            .due("what it was at first", x.set(3, 99), 20)
            .due("what it was", x.set(3, 0), 99)
            .due("what it was, 0", x.set(3, 0), 0)
            .due("the others stay", x.lawOf(0) * 100 + x.lawOf(1) * 10 + x.lawOf(2), 212);
        Sentence.of(5, "A LAW. BAD.")
            .keepsTo("law", 0, 3, (y, v) -> y.lawOf(v))
            .due("SHADE", Whole.few().lawOf(0), 3)
            .due("FROST", Whole.few().lawOf(3), 40);
    }

    private static void branch() {
        LastPruned x = Whole.few();
        Sentence.of(6, "One more, ON one (on: 1 and its number), or ON the trunk (0), not CUT: its number.")
            .due("ON the trunk", x.branch(0, 0, 0, 0), 5)
            .due("it is ON the trunk", x.of(5, 1), 0)
            .due("ON the last", x.branch(5, 6, 9, 99), 6)
            .due("it is ON that", x.of(6, 1), 6)
            .due("ON one that is CUT", x.branch(0, 3, 1, 1), 7)
            .due("it is not CUT", x.of(7, 4), 0)
            .due("LIES 0", x.of(7, 5), 0)
            .due("LIES 0 where a BURNT one was", lainBefore(), 0)
            .due("but doesn't STAND", x.of(7, 6), 0)
            .due("KIND", x.of(6, 0), 5)
            .due("FORCE", x.of(6, 2), 9)
            .due("AGE", x.of(6, 3), 99);
        Sentence.of(6, "BAD; FULL.")
            .keepsTo("kind", 0, 5, (y, v) -> y.branch(v, 0, 0, 0))
            .keepsTo("on", 0, 5, (y, v) -> y.branch(0, v, 0, 0))
            .keepsTo("on, none there", 0, 0, LastPruned::new, (y, v) -> y.branch(0, v, 0, 0))
            .keepsTo("force", 0, 9, (y, v) -> y.branch(0, 0, v, 0))
            .keepsTo("age", 0, 99, (y, v) -> y.branch(0, 0, 0, v))
            .refuses("FULL", FULL, Whole::full, y -> y.branch(0, 0, 0, 0))
            .refuses("FULL, ON the eighth", FULL, Whole::full, y -> y.branch(5, 8, 9, 99))
            .refuses("BAD before FULL", BAD, Whole::full, y -> y.branch(0, 9, 0, 0));
    }

    /** LIES of one that comes in the place of one that was BURNT. */
    private static int lainBefore() {
        LastPruned x = Whole.few("");
        x.harvest(1);
        x.tree();
        for (int b = 0; b < 5; b++) {
            x.branch(0, 0, 0, 0);
        }
        return x.of(2, 5) + x.of(4, 5);
    }

    private static void of() {
        LastPruned x = Whole.few();
        int[][] want = {{2, 0, 5, 11, 0, 0, 1, 0}, {1, 1, 3, 7, 0, 0, 1, 1}, {4, 1, 7, 30, 1, 2, 0, 1},
            {0, 3, 9, 55, 0, 0, 0, 2}, {5, 0, 6, 10, 1, 7, 0, 0}};
        Sentence s = Sentence.of(7, "Of one: what = 0 KIND, 1 ON which (0: the trunk; else 1 and the number), 2 FORCE, 3 AGE,"
                + " 4 1 if it is CUT, else 0, 5 LIES, 6 1 if it STANDS, else 0, 7 DEEP. BAD.")
            .keepsTo("one", 0, 4, (y, v) -> y.of(v, 0))
            .keepsTo("one of eight", 0, 7, Whole::full, (y, v) -> y.of(v, 7))
            .keepsTo("what", 0, 7, (y, v) -> y.of(0, v))
            .due("none there", new LastPruned().of(0, 0), BAD);
        for (int b = 0; b < want.length; b++) {
            for (int what = 0; what < 8; what++) {
                s.due("of(" + b + ", " + what + ")", x.of(b, what), want[b][what]);
            }
        }
    }

    private static void does() {
        LastPruned x = Check.ofText("branch; limb force 9 age 20; spur on 0 cut; spur on 0 cut;");
        Sentence.of(8, "1000, and what one HINDERS (what 0), BEARS (1), GAINS (2) now (whether it STANDS or not). BAD.")
            .keepsTo("one", 0, 4, (y, v) -> y.does(v, 0))
            .keepsTo("what", 0, 2, (y, v) -> y.does(0, v))
            .due("HINDERS, below 0, CUT", x.does(2, 0), 999)
            .due("HINDERS", x.does(1, 0), 1010)
            .due("BEARS, below 0", x.does(0, 1), 990)
            .due("BEARS, CUT: the other that is CUT doesn't hinder", x.does(3, 1), 1001)
            .due("BEARS, CUT: the other STANDS", x.back(2) == 3 ? x.does(3, 1) : -1, 1002)
            .due("GAINS, below 0", x.does(1, 2), 998)
            .due("GAINS, CUT", x.does(3, 2), 1002)
            .due("none there", new LastPruned().does(0, 0), BAD);
    }

    private static void stem() {
        LastPruned x = Whole.few();
        Sentence.of(9, "STEM of one, as a set. BAD.")
            .keepsTo("one", 0, 4, (y, v) -> y.stem(v))
            .due("of the bough", x.stem(0), 2 | 4 | 8)
            .due("of one with none ON it", x.stem(1), 0)
            .due("of the last", x.stem(4), 0)
            .due("of the first of eight", TermsEdges.chain(0, 0).stem(0), 254)
            .due("none there", new LastPruned().stem(0), BAD);
    }

    private static void mind() {
        LastPruned x = Whole.few();
        Sentence.of(10, "One becomes one of another KIND, with another FORCE: the KIND that it was. BAD.")
            .keepsTo("one", 0, 4, (y, v) -> y.mind(v, 0, 0))
            .keepsTo("kind", 0, 5, (y, v) -> y.mind(0, v, 0))
            .keepsTo("force", 0, 9, (y, v) -> y.mind(0, 0, v))
            .due("a graft", x.mind(0, 5, 9), 2)
            .due("KIND", x.of(0, 0), 5)
            .due("FORCE", x.of(0, 2), 9)
            .due("AGE stays", x.of(0, 3), 11)
            .due("the same KIND", x.mind(0, 5, 0), 5)
            .due("FORCE 0", x.of(0, 2), 0)
            .due("one that is CUT", x.mind(2, 0, 1), 4)
            .due("it is CUT still", x.of(2, 4) * 10 + x.of(2, 5), 12)
            .due("none there", new LastPruned().mind(0, 0, 0), BAD);
    }

    private static void age() {
        LastPruned x = Whole.few();
        Sentence.of(11, "AGE becomes v: what it was. BAD.")
            .keepsTo("one", 0, 4, (y, v) -> y.age(v, 0))
            .keepsTo("v", 0, 99, (y, v) -> y.age(0, v))
            .due("99", x.age(0, 99), 11)
            .due("AGE", x.of(0, 3), 99)
            .due("0", x.age(0, 0), 99)
            .due("AGE 0", x.of(0, 3), 0)
            .due("FORCE stays", x.of(0, 2), 5)
            .due("none there", new LastPruned().age(0, 0), BAD);
    }

    private static void graft() {
        LastPruned x = Whole.few();
        Sentence.of(12, "It is ON another one (on: 1 and its number, a lesser one), or ON the trunk (0) from now on:"
                + " ON which it was (likewise). BAD.")
            .keepsTo("one", 0, 4, (y, v) -> y.graft(v, 0))
            .keepsTo("on, of the first", 0, 0, (y, v) -> y.graft(0, v))
            .keepsTo("on, of the second", 0, 1, (y, v) -> y.graft(1, v))
            .keepsTo("on, of the last", 0, 4, (y, v) -> y.graft(4, v))
            .refuses("ON itself", BAD, y -> y.graft(3, 4))
            .refuses("ON a greater one", BAD, y -> y.graft(3, 5))
            .due("ON the trunk", x.graft(3, 0), 3)
            .due("it is ON the trunk", x.of(3, 1), 0)
            .due("it STANDS", x.of(3, 6), 1)
            .due("ON the one before it, which is CUT", x.graft(3, 3), 0)
            .due("it is ON that", x.of(3, 1), 3)
            .due("it doesn't STAND", x.of(3, 6), 0)
            .due("ON the same once more", x.graft(3, 3), 3)
            .due("none there", new LastPruned().graft(0, 0), BAD);
    }

    private static void cut() {
        LastPruned x = Whole.few();
        Sentence.of(13, "It is CUT: how many STAND then. BAD; NONE: it is CUT.")
            .keepsTo("one", 0, 4, (y, v) -> y.cut(v))
            .refuses("NONE: it is CUT", NONE, y -> y.cut(2))
            .refuses("NONE: it is BURNT", NONE, y -> y.cut(4))
            .due("one that doesn't STAND", x.cut(3), 2)
            .due("it is CUT", x.of(3, 4), 1)
            .due("LIES 0", x.of(3, 5), 0)
            .due("the first: none STANDS", x.cut(0), 0)
            .due("those CUT", x.state(3), 1 | 4 | 8 | 16)
            .due("none there", new LastPruned().cut(0), BAD);
    }

    private static void back() {
        LastPruned x = Whole.few();
        LastPruned five = Whole.few();
        five.years(3);
        LastPruned six = Whole.few();
        six.years(4);
        Sentence.of(14, "It is had back (CUT no more): how many STAND then. BAD; NONE: it is not CUT, or BURNT.")
            .keepsTo("one", 0, 4, (y, v) -> y.back(v))
            .refuses("NONE: it is not CUT", NONE, y -> y.back(0))
            .refuses("NONE: it doesn't STAND, but is not CUT", NONE, y -> y.back(3))
            .refuses("NONE: BURNT", NONE, y -> y.back(4))
            .due("with the one ON it", x.back(2), 4)
            .due("CUT no more", x.of(2, 4), 0)
            .due("LIES 0", x.of(2, 5), 0)
            .due("LIES 5", five.of(2, 5), 5)
            .due("LIES 5: had back", five.back(2), 4)
            .due("LIES 6", six.of(2, 5), 6)
            .due("LIES 6: BURNT", six.back(2), NONE)
            .due("none there", new LastPruned().back(0), BAD);
    }

    private static void years() {
        LastPruned x = Check.ofText("graft force 1; rain 0;");
        Sentence.of(15, "n YEARS (1 to 60): CROP then. BAD.")
            .keepsTo("n", 1, 60, (y, v) -> y.years(v))
            .due("one", x.years(1), 1)
            .due("sixty", x.years(60), 61)
            .due("YEAR", x.state(0), 61)
            .due("no BRANCHES", new LastPruned().years(60), 0);
    }

    private static void draws() {
        LastPruned x = new LastPruned();
        Sentence.of(16, "z becomes v: what it was.")
            .due("at first", x.seed(Integer.MIN_VALUE), 1)
            .due("the least", x.seed(Integer.MAX_VALUE), Integer.MIN_VALUE)
            .due("the most", x.seed(-1), Integer.MAX_VALUE)
            .due("-1, which is no refusal", x.seed(0), -1)
            .due("0", x.seed(0), 0);
        LastPruned calm = Check.ofText("frost 0; graft force 4; rain 0;");
        LastPruned none = new LastPruned();
        Sentence.of(17, "A YEAR BY DRAWS: CROP then.")
            .due("no BRANCHES", none.year(), 0)
            .due("no draw", none.seed(0), 1)
            .due("one", calm.year(), 4)
            .due("another", calm.year(), 8)
            .due("YEAR", calm.state(0), 2)
            .due("z went on", calm.seed(0) == 1 ? 1 : 0, 0);
        Sentence.of(18, "WINTERS (n 1 to 30). BAD.")
            .keepsTo("n", 1, 30, (y, v) -> y.winters(v))
            .due("no BRANCHES", none.winters(30), 0)
            .due("FROST 0", calm.winters(30), 0);
    }

    private static void state() {
        LastPruned x = Whole.few();
        LastPruned none = new LastPruned();
        int[] want = {7, x.state(1), 1 | 2, 4 | 16, 5 + 3 + 7 + 9 + 6, 16};
        Sentence s = Sentence.of(19, "What = 0 YEAR, 1 CROP, 2 those that STAND, as a set, 3 those CUT, as a set, 4 FORCE of all"
                + " together, 5 those BURNT, as a set. BAD.")
            .keepsTo("what", 0, 5, (y, v) -> y.state(v))
            .due("CROP is above 0", want[1] > 0 ? 1 : 0, 1);
        for (int what = 0; what < 6; what++) {
            s.due("state(" + what + ")", x.state(what), want[what]);
            s.due("of a new one", none.state(what), 0);
        }
        LastPruned eight = Check.ofText("bud force 9;bud force 9;bud force 9;bud force 9;bud force 9;bud force 9;bud force 9;"
            + "bud force 9 cut;");
        s.due("FORCE of eight", eight.state(4), 72).due("seven STAND", eight.state(2), 127);
        s.due("the eighth is CUT", eight.state(3), 128);
    }
}
