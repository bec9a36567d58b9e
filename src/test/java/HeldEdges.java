/** Promises 32 to 46: ROWS, SHEETS, SHELVES, ACTS, how many, what is kept. */
final class HeldEdges {
    private static final int BAD = LastPruned.BAD, NONE = LastPruned.NONE;
    private static final int MOST = Integer.MAX_VALUE, LEAST = Integer.MIN_VALUE;

    private HeldEdges() {
    }

    static void all() {
        prove();
        row();
        alterRow();
        judge();
        minds();
        mindsRefused();
        sheet();
        put();
        item();
        shelf();
        taken();
        act();
        trace();
        many();
        keep();
        again();
    }

    private static void prove() {
        LastPruned x = Whole.few();
        Sentence.of(32, "ROWS of one by n YEARS (1 to 10): how many. BAD.")
            .keepsTo("one", 0, 4, (y, v) -> y.prove(v, 1))
            .keepsTo("n", 1, 10, (y, v) -> y.prove(0, v))
            .due("ten", x.prove(0, 10), 10)
            .due("ten are there", x.many(4), 10)
            .due("one", x.prove(1, 1), 1)
            .due("one is there", x.many(4), 1)
            .due("it is of that one", x.row(0, 0), 5)
            .due("none behind it", x.row(1, 0), -9)
            .due("none there", new LastPruned().prove(0, 1), BAD);
    }

    private static void row() {
        LastPruned x = Check.ofText("branch force 3;");
        x.prove(0, 10);
        Sentence.of(33, "Of ROW i: what = 0 FORCE, 1 whether it STANDS, 2 what all bore. -9: there is none such, another what.")
            .due("0 FORCE", x.row(0, 0), 4)
            .due("0 STANDS", x.row(0, 1), 1)
            .due("0 what all bore", x.row(0, 2), 3)
            .due("9 FORCE", x.row(9, 0), 9)
            .due("9 what all bore", x.row(9, 2), 9)
            .due("10", x.row(10, 0), -9)
            .due("-1", x.row(-1, 2), -9)
            .refuses("3 of three", -9, y -> y.row(3, 0))
            .refuses("-1", -9, y -> y.row(-1, 0))
            .refuses("the most", -9, y -> y.row(MOST, 2))
            .refuses("the least", -9, y -> y.row(LEAST, 0))
            .refuses("what 3", -9, y -> y.row(0, 3))
            .refuses("what -1", -9, y -> y.row(1, -1))
            .refuses("what the most", -9, y -> y.row(0, MOST))
            .refuses("what the least", -9, y -> y.row(2, LEAST))
            .due("2 of three", Whole.few().row(2, 0) > 0 ? 1 : 0, 1)
            .due("no ROWS", new LastPruned().row(0, 0), -9);
    }

    private static void alterRow() {
        LastPruned x = Check.ofText("branch force 3;");
        x.prove(0, 2);
        Sentence.of(34, "It becomes v: what it was. -9 likewise.")
            .due("the most", x.alterRow(0, 0, MOST), 4)
            .due("the least", x.alterRow(0, 0, LEAST), MOST)
            .due("it is that", x.row(0, 0), LEAST)
            .due("-9, which is no refusal", x.alterRow(0, 0, -9), LEAST)
            .due("what it was: -9", x.alterRow(0, 0, 0), -9)
            .due("it is 0", x.row(0, 0), 0)
            .due("the last", x.alterRow(1, 2, 7), 4)
            .due("the others stay", x.row(1, 0) * 10 + x.row(1, 1), 51)
            .refuses("3 of three", -9, y -> y.alterRow(3, 0, 5))
            .refuses("-1", -9, y -> y.alterRow(-1, 0, 5))
            .refuses("the most", -9, y -> y.alterRow(MOST, 2, 5))
            .refuses("the least", -9, y -> y.alterRow(LEAST, 0, 5))
            .refuses("what 3", -9, y -> y.alterRow(0, 3, 5))
            .refuses("what -1", -9, y -> y.alterRow(1, -1, 5))
            .refuses("what the most", -9, y -> y.alterRow(0, MOST, 5))
            .refuses("what the least", -9, y -> y.alterRow(2, LEAST, 5))
            .due("no ROWS", new LastPruned().alterRow(0, 0, 0), -9);
    }

    private static void judge() {
        LastPruned x = Check.ofText("branch force 3;");
        Sentence s = Sentence.of(35, "THE READER takes ROWS: 0 all is right (also if there are none); else the first ROW that isn't,"
                + " and 1 more. BAD.")
            .keepsTo("one", 0, 4, (y, v) -> y.judge(v))
            .due("none there", new LastPruned().judge(0), BAD)
            .due("no ROWS", x.judge(0), 0)
            .due("all is right", x.prove(0, 10) == 10 ? x.judge(0) : -1, 0);
        x.alterRow(9, 2, 8);
        s.due("the last", x.judge(0), 10);
        x.alterRow(0, 1, 0);
        s.due("the first of two", x.judge(0), 1);
        x.alterRow(0, 1, 1);
        x.alterRow(9, 2, 9);
        s.due("all is right once more", x.judge(0), 0);
        x.prove(0, 9);
        s.due("one fewer", x.alterRow(9, 2, 8) == -9 ? x.judge(0) : -1, 0);
    }

    private static void minds() {
        LastPruned x = Check.ofText("bud;bud;bud cut;bud;bud;bud;bud;bud force 5;");
        x.sheet(0, 0, 9);
        int[] put = {-128, -1, 0, 1, 8, 9, 10, 127, 200};
        for (int i = 0; i < put.length; i++) {
            x.put(0, i, put[i]);
        }
        Sentence s = Sentence.of(36, "n numbers (0 to 8) of a SHEET taken for bytes, from i on, become FORCE of BRANCHES from one on"
            + " (held to 0 to 9): n.");
        s.due("seven", x.minds(0, 0, 0, 7), 7);
        int[] seven = {0, 0, 0, 1, 8, 9, 9, 5};
        for (int b = 0; b < 8; b++) {
            s.due("of seven: FORCE of " + b, x.of(b, 2), seven[b]);
        }
        s.due("eight, from 1 on", x.minds(0, 1, 0, 8), 8);
        int[] eight = {0, 0, 1, 8, 9, 9, 9, 0};
        for (int b = 0; b < 8; b++) {
            s.due("of eight: FORCE of " + b, x.of(b, 2), eight[b]);
        }
        s.due("the last to the last", x.minds(0, 7, 7, 1) == 1 ? x.of(7, 2) : -1, 9);
        s.due("the one before it stays", x.of(6, 2), 9);
        s.due("none", x.minds(0, 0, 0, 0), 0).due("nothing becomes", x.of(0, 2), 0);
        s.due("the SHEET stays", x.item(0, 0, 0), -128);
    }

    private static void mindsRefused() {
        Sentence.of(36, "BAD: no such SHEET, one, n, or n goes beyond the last one; -11; -13;"
                + " -12: i is not 0 to how many items there are (also for n 0), or there are not so many.")
            .keepsTo("sheet", 0, 3, (y, v) -> y.minds(v, 0, 0, 1))
            .keepsTo("one", 0, 4, (y, v) -> y.minds(0, 0, v, 1))
            .keepsTo("one, n 0", 0, 4, (y, v) -> y.minds(0, 0, v, 0))
            .keepsTo("n", 0, 5, (y, v) -> y.minds(0, 0, 0, v))
            .keepsTo("n from the last on", 0, 1, (y, v) -> y.minds(0, 0, 4, v))
            .keepsTo("n of eight", 0, 8, Whole::full, (y, v) -> y.minds(0, 0, 0, v))
            .refuses("-11", -11, y -> y.minds(2, 0, 0, 1))
            .refuses("-11 before -12", -11, y -> y.minds(2, -1, 0, 0))
            .refuses("-13: shorts", -13, y -> y.minds(1, 0, 0, 1))
            .refuses("-13: longs, before -12", -13, y -> y.minds(3, 9, 0, 0))
            .refuses("-12: i -1", -12, y -> y.minds(0, -1, 0, 1))
            .refuses("-12: i -1, n 0", -12, y -> y.minds(0, -1, 0, 0))
            .refuses("-12: i 5 of four, n 0", -12, y -> y.minds(0, 5, 0, 0))
            .refuses("-12: i 4 of four, n 1", -12, y -> y.minds(0, 4, 0, 1))
            .refuses("-12: i 1 of four, n 4", -12, y -> y.minds(0, 1, 0, 4))
            .refuses("-12: i 0 of four, n 5", -12, y -> y.minds(0, 0, 0, 5))
            .refuses("-12: i the most, n 5", -12, y -> y.minds(0, MOST, 0, 5))
            .refuses("-12: i the least", -12, y -> y.minds(0, LEAST, 0, 1))
            .due("i 4 of four, n 0", Whole.few().minds(0, 4, 0, 0), 0)
            .due("i 3 of four, n 1", Whole.few().minds(0, 3, 0, 1), 1)
            .due("i 0 of four, n 4", Whole.few().minds(0, 0, 0, 4), 4)
            .refuses("BAD before -11: beyond the last", BAD, y -> y.minds(2, 0, 3, 3))
            .refuses("BAD before -11: n -1", BAD, y -> y.minds(2, 0, 0, -1))
            .refuses("BAD before -13: n -1", BAD, y -> y.minds(1, 0, 1, -1))
            .refuses("BAD before -12: n -1", BAD, y -> y.minds(0, 9, 1, -1))
            .refuses("BAD before -11: n 9", BAD, Whole::full, y -> y.minds(2, 0, 0, 9))
            .due("none there", new LastPruned().minds(0, 0, 0, 0), BAD);
    }

    private static void sheet() {
        LastPruned x = Whole.few();
        Sentence s = Sentence.of(37, "A SHEET becomes a row of n of a sort, all 0, or missing (sort -1; n counts nothing then): 1.");
        for (int sort = 0; sort < 4; sort++) {
            s.due("of forty", x.sheet(3 - sort, sort, 40), 1).due("the last", x.item(3 - sort, sort, 39), 0);
            s.due("none behind", x.item(3 - sort, sort, 40), -12).due("put", x.put(3 - sort, 0, 7), 1);
            s.due("anew", x.sheet(3 - sort, sort, 1), 1).due("all 0", x.item(3 - sort, sort, 0), 0);
            s.due("of none", x.sheet(3 - sort, sort, 0), 1).due("none in it", x.item(3 - sort, sort, 0), -12);
            s.due("of another sort", x.item(3 - sort, (sort + 1) % 4, 0), -13);
        }
        for (int n : new int[] {0, 41, -1, MOST, LEAST}) {
            x.sheet(1, 1, 3);
            s.due("missing, n " + n, x.sheet(1, -1, n), 1).due("it is missing", x.item(1, 1, 0), -11);
        }
        s.due("missing once more", x.sheet(1, -1, 0), 1);
        Sentence.of(37, "BAD: no such SHEET, sort, n above 40; -14.")
            .keepsTo("sheet", 0, 3, (y, v) -> y.sheet(v, 0, 1))
            .keepsTo("sheet that becomes missing", 0, 3, (y, v) -> y.sheet(v, -1, 1))
            .keepsTo("sort", -1, 3, (y, v) -> y.sheet(0, v, 1))
            .refuses("n 41", BAD, y -> y.sheet(0, 0, 41))
            .refuses("n the most", BAD, y -> y.sheet(0, 3, MOST))
            .refuses("n -1", -14, y -> y.sheet(0, 0, -1))
            .refuses("n the least", -14, y -> y.sheet(2, 3, LEAST))
            .refuses("sort before n", BAD, y -> y.sheet(0, 4, -1))
            .refuses("sheet before n", BAD, y -> y.sheet(4, 0, -1))
            .due("n 40", Whole.few().sheet(0, 0, 40), 1)
            .due("n 0", Whole.few().sheet(0, 0, 0), 1);
    }

    private static void put() {
        LastPruned x = new LastPruned();
        Sentence s = Sentence.of(38, "Item i becomes v, narrowed to its sort: 1.");
        int[] v = {127, 128, -128, -129, 255, 256, 32767, 32768, -32768, -32769, 65535, 65536, MOST, LEAST};
        int[] bytes = {127, -128, -128, 127, -1, 0, -1, 0, 0, -1, -1, 0, -1, 0};
        int[] shorts = {127, 128, -128, -129, 255, 256, 32767, -32768, -32768, 32767, -1, 0, -1, 0};
        for (int sort = 0; sort < 4; sort++) {
            x.sheet(sort, sort, 2);
            for (int i = 0; i < v.length; i++) {
                int want = sort == 0 ? bytes[i] : sort == 1 ? shorts[i] : v[i];
                s.due(v[i] + ", sort " + sort, x.put(sort, 1, v[i]), 1).due("it is", x.item(sort, sort, 1), want);
            }
            s.due("the other stays", x.item(sort, sort, 0), 0);
        }
        Sentence.of(38, "BAD: no such SHEET; -11; -12.")
            .refuses("sheet -1", BAD, y -> y.put(-1, 0, 1))
            .refuses("sheet 4", BAD, y -> y.put(4, 0, 1))
            .refuses("sheet the most", BAD, y -> y.put(MOST, 0, 1))
            .refuses("sheet the least", BAD, y -> y.put(LEAST, 0, 1))
            .refuses("missing", -11, y -> y.put(2, 0, 1))
            .refuses("-11 before -12", -11, y -> y.put(2, -1, 1))
            .refuses("i -1", -12, y -> y.put(0, -1, 1))
            .refuses("i 4 of four", -12, y -> y.put(0, 4, 1))
            .refuses("i the most", -12, y -> y.put(0, MOST, 1))
            .refuses("i the least", -12, y -> y.put(0, LEAST, 1))
            .due("sheet 0, i 0", Whole.few().put(0, 0, 1), 1)
            .due("sheet 0, i 3 of four", Whole.few().put(0, 3, 1), 1)
            .due("sheet 3", Whole.few().put(3, 0, 1), 1);
    }

    private static void item() {
        LastPruned x = Whole.few();
        Sentence.of(39, "Item i, taken for a sort (0 to 3; of longs the lowest 32 bits). BAD: no such SHEET, sort; -11; -13; -12.")
            .keepsTo("sheet", 0, 3, (y, v) -> y.item(v, 0, 0))
            .keepsTo("sort", 0, 3, (y, v) -> y.item(0, v, 0))
            .due("bytes", x.item(0, 0, 0), 1)
            .due("the last of four", x.item(0, 0, 3), 12)
            .due("shorts", x.item(1, 1, 2), -300)
            .due("longs, the most", x.put(3, 0, MOST) == 1 ? x.item(3, 3, 0) : 0, MOST)
            .due("longs, the least", x.put(3, 0, LEAST) == 1 ? x.item(3, 3, 0) : 0, LEAST)
            .refuses("-11", -11, y -> y.item(2, 0, 0))
            .refuses("-11 before -12", -11, y -> y.item(2, 3, 9))
            .refuses("-13", -13, y -> y.item(0, 1, 0))
            .refuses("-13: ints are no longs", -13, y -> y.item(3, 2, 0))
            .refuses("-13 before -12", -13, y -> y.item(0, 1, 9))
            .refuses("-12: i -1", -12, y -> y.item(0, 0, -1))
            .refuses("-12: i 4 of four", -12, y -> y.item(0, 0, 4))
            .refuses("-12: i the most", -12, y -> y.item(0, 0, MOST))
            .refuses("-12: i the least", -12, y -> y.item(0, 0, LEAST))
            .refuses("BAD before -11: sort 4", BAD, y -> y.item(2, 4, 0))
            .refuses("BAD before -11: sort -1", BAD, y -> y.item(2, -1, 0));
        Sentence s = Sentence.of(39, "(An item may be as low as these, too.)");
        for (int v = -15; v <= -1; v++) {
            s.due("an item " + v, x.put(0, 0, v) == 1 ? x.item(0, 0, 0) : 0, v);
        }
    }

    private static void shelf() {
        LastPruned x = Whole.few();
        Sentence.of(40, "A SHELF holds one of the BRANCHES (what 0, its number n), the row of SHEET n (1; nothing, if missing),"
                + " nothing (2): 1. BAD: no such SHELF, what, thing.")
            .keepsTo("shelf", 0, 3, (y, v) -> y.shelf(v, 0, 0))
            .keepsTo("shelf that holds nothing", 0, 3, (y, v) -> y.shelf(v, 2, 0))
            .keepsTo("what", 0, 2, (y, v) -> y.shelf(2, v, 0))
            .keepsTo("one", 0, 4, (y, v) -> y.shelf(2, 0, v))
            .keepsTo("sheet", 0, 3, (y, v) -> y.shelf(2, 1, v))
            .refuses("none there", BAD, LastPruned::new, y -> y.shelf(0, 0, 0))
            .due("one that is CUT", x.shelf(0, 0, 4) == 1 ? x.taken(0, 5) : -1, 4)
            .due("a row", x.shelf(0, 1, 1) == 1 ? x.taken(0, 11) : -1, 3)
            .due("a missing one", x.shelf(0, 1, 2) == 1 ? x.taken(0, 11) : -1, -11)
            .due("a row once more", x.shelf(0, 1, 3) == 1 ? x.taken(0, 13) : -1, 2)
            .due("nothing, n the least", x.shelf(0, 2, LEAST) == 1 ? x.taken(0, 13) : -1, -11)
            .due("nothing, n the most", x.shelf(1, 2, MOST) == 1 ? x.taken(1, 10) : -1, -11)
            .due("the others stay", x.taken(3, 0), 3);
    }

    private static void taken() {
        LastPruned x = Check.ofText("branch; spur; bough; bud; limb; graft;");
        Sentence s = Sentence.of(41, "What a SHELF holds taken for a thing of KIND as (0 to 5, or one under it): its number;"
            + " for a row of sort as - 10 (as 10 to 13): how many items.");
        int[] sets = {1, 3, 5, 11, 21, 33};
        for (int b = 0; b < 6; b++) {
            x.shelf(0, 0, b);
            for (int as = 0; as < 6; as++) {
                s.due("KIND " + b + " as " + as, x.taken(0, as), (sets[b] >> as & 1) == 1 ? b : -13);
            }
        }
        for (int sort = 0; sort < 4; sort++) {
            int size = sort == 3 ? 40 : sort * 2;
            x.sheet(sort, sort, size);
            x.shelf(0, 1, sort);
            for (int as = 10; as < 14; as++) {
                s.due("sort " + sort + " as " + as, x.taken(0, as), as - 10 == sort ? size : -13);
            }
        }
        Sentence.of(41, "BAD: no such SHELF, as; -11; -13.")
            .keepsTo("shelf", 0, 3, (y, v) -> y.taken(v, 0))
            .keepsTo("as a thing", 0, 5, (y, v) -> y.taken(0, v))
            .keepsTo("as a row", 10, 13, (y, v) -> y.taken(0, v))
            .refuses("BAD before -11: 6", BAD, y -> y.taken(2, 6))
            .refuses("BAD before -11: 9", BAD, y -> y.taken(2, 9))
            .refuses("BAD before -13: 14", BAD, y -> y.taken(1, 14))
            .refuses("-11: nothing, as a thing", -11, y -> y.taken(2, 5))
            .refuses("-11: nothing, as a row", -11, y -> y.taken(2, 13))
            .refuses("-13: a thing as a row", -13, y -> y.taken(0, 10))
            .refuses("-13: a row as a thing", -13, y -> y.taken(1, 0))
            .refuses("-13: a row of another sort", -13, y -> y.taken(1, 11))
            .refuses("-13: a spur as a bud", -13, y -> y.taken(0, 3));
    }

    private static void act() {
        LastPruned x = Whole.few();
        Sentence s = Sentence.of(42, "An ACT (0 to 3) of the thing on a SHELF, with x. 0, and no TRACE then: no such SHELF, act,"
                + " nothing, a row.")
            .due("a spur that buds", x.act(0, 0, 5), 16)
            .due("a branch on the last SHELF that falls", x.act(3, 3, 5), (5 * 3 + 3 - 9) ^ 17);
        int[][] none = {{-1, 0}, {4, 0}, {LEAST, 0}, {MOST, 0}, {0, -1}, {0, 4}, {0, LEAST}, {0, MOST}, {2, 0}, {1, 0}, {2, 4}};
        for (int[] n : none) {
            x.act(0, 3, 5);
            s.due("a TRACE before", x.many(6), 4);
            s.due("act(" + n[0] + ", " + n[1] + ", 5)", x.act(n[0], n[1], 5), 0);
            s.due("no TRACE then", x.many(6), 0).due("no body then", x.trace(0), NONE);
        }
        s.due("an ACT may answer 0, too", x.act(0, 2, 0), 0).due("with a TRACE", x.many(6), 1);
        LastPruned acted = Whole.few();
        acted.act(0, 3, -9);
        s.same("an ACT changes but THE TRACE, which is alike here", acted, Whole.few());
    }

    private static void trace() {
        LastPruned x = Whole.few();
        Sentence.of(43, "THE TRACE's i-th body. NONE.")
            .due("the first", x.trace(0), 13)
            .due("the last of four", x.trace(3), 10)
            .refuses("a fifth", NONE, y -> y.trace(4))
            .refuses("-1", NONE, y -> y.trace(-1))
            .refuses("29", NONE, y -> y.trace(29))
            .refuses("30", NONE, y -> y.trace(30))
            .refuses("the most", NONE, y -> y.trace(MOST))
            .refuses("the least", NONE, y -> y.trace(LEAST))
            .due("no act", new LastPruned().trace(0), NONE);
    }

    private static void many() {
        LastPruned x = Whole.full();
        int[] want = {8, 5, 2, 1, 3, 200, 4};
        Sentence s = Sentence.of(44, "How many: what = 0 BRANCHES, 1 those that STAND, 2 those CUT, 3 those BURNT, 4 ROWS,"
                + " 5 bytes of THE TAPE, 6 bodies of THE TRACE. BAD: another what.")
            .keepsTo("what", 0, 6, (y, v) -> y.many(v));
        for (int what = 0; what < 7; what++) {
            s.due("many(" + what + ")", x.many(what), want[what]);
            s.due("of a new one", new LastPruned().many(what), 0);
        }
    }

    /** Changes all that is kept and all that isn't. */
    private static void changeAll(LastPruned x) {
        for (int law = 0; law < 4; law++) {
            x.set(law, 1);
        }
        x.cut(0);
        x.back(2);
        x.mind(1, 0, 8);
        x.age(1, 1);
        x.graft(3, 0);
        x.branch(0, 0, 1, 1);
        x.year();
        x.seed(8);
    }

    private static void keep() {
        LastPruned x = Whole.few();
        Sentence s = Sentence.of(45, "All but THE TAPE, ROWS, SHEETS, SHELVES, THE TRACE is kept: 1.");
        StringBuilder kept = new StringBuilder();
        Whole.tree(x, kept);
        s.due("keep", x.keep(), 1);
        changeAll(x);
        x.feed(0x20, 1);
        x.prove(0, 1);
        x.sheet(0, 2, 1);
        x.put(1, 0, 5);
        x.shelf(0, 2, 0);
        x.act(3, 0, 1);
        x.again();
        StringBuilder again = new StringBuilder();
        Whole.tree(x, again);
        s.due("LAWS, YEAR, CROP, z and BRANCHES: " + again + " / " + kept, again.toString().equals(kept.toString()) ? 1 : 0, 1);
        s.due("not THE TAPE", x.many(5), 7).due("not ROWS", x.many(4), 1);
        s.due("not SHEETS", x.item(0, 2, 0), 0).due("nor their items", x.item(1, 1, 0), 5);
        s.due("not SHELVES", x.taken(0, 0), -11).due("not THE TRACE", x.many(6), 1);
        s.due("a new one", new LastPruned().keep(), 1);
        s.due("once more", x.keep(), 1);
    }

    private static void again() {
        LastPruned x = new LastPruned();
        Sentence s = Sentence.of(46, "It becomes what was kept latest (which stays): how many BRANCHES. NONE: nothing is kept.")
            .due("nothing is kept", x.again(), NONE)
            .due("none is kept", x.keep(), 1)
            .due("no BRANCHES", x.branch(0, 0, 0, 0) == 0 ? x.again() : -1, 0)
            .due("none is there", x.many(0), 0);
        for (int b = 0; b < 8; b++) {
            x.branch(0, 0, b, 0);
        }
        s.due("eight are kept", x.keep(), 1).due("none told", x.tree(), 0).due("eight", x.again(), 8);
        s.due("the eighth", x.of(7, 2), 7).due("changed", x.mind(7, 1, 1), 0).due("it stays", x.again(), 8);
        s.due("the eighth as it was", x.of(7, 2) * 10 + x.of(7, 0), 70);
        s.due("one told", Check.told(x, "bud;"), 1).due("kept", x.keep(), 1).due("eight more told", Check.told(x, "bud;bud;"), 2);
        s.due("the latest", x.again(), 1);
        LastPruned bare = Check.ofText("bud; bud force 3;");
        s.refuses("nothing is kept: all stays", NONE, () -> Check.ofText("bud; bud force 3;"), y -> y.again());
        s.due("and the BRANCHES, too", bare.again() == NONE ? bare.many(0) : -1, 2);
    }
}
