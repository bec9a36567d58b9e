/** Objects with something of everything in them, and all that can be seen of one, as a text. */
final class Whole {
    private Whole() {
    }

    /**
     * Five BRANCHES: 0 a bough and 1 a spur ON it STAND; 2 a limb ON 0 is CUT, LIES 2; 3 a branch ON 2
     * is not CUT, but doesn't STAND; 4 a graft is BURNT. THE TAPE has six bytes, there are three ROWS,
     * SHEETS 0 (bytes, 4), 1 (shorts, 3) and 3 (longs, 2), SHELVES with 1, a row, nothing, 3.
     */
    static LastPruned few() {
        return few("sun 3;");
    }

    static LastPruned few(String tape) {
        LastPruned x = new LastPruned();
        keepAnother(x);
        grow(x);
        layRows(x);
        Check.feedAll(x, tape);
        return x;
    }

    /** Likewise, with eight BRANCHES and a full TAPE. */
    static LastPruned full() {
        LastPruned x = few("bud;" + " ".repeat(196));
        x.branch(3, 1, 2, 3);
        x.branch(0, 0, 4, 1);
        x.branch(1, 7, 8, 0);
        return x;
    }

    private static void keepAnother(LastPruned x) {
        x.branch(3, 0, 1, 1);
        x.seed(31);
        x.set(0, 5);
        x.keep();
        x.tree();
    }

    private static void grow(LastPruned x) {
        int[] laws = {3, 4, 5, 40};
        for (int law = 0; law < 4; law++) {
            x.set(law, laws[law]);
        }
        x.branch(2, 0, 5, 4);
        x.branch(1, 1, 3, 0);
        x.branch(4, 1, 7, 25);
        x.branch(0, 3, 4, 50);
        x.branch(5, 0, 6, 10);
        x.cut(4);
        x.years(5);
        x.cut(2);
        x.years(2);
        x.mind(0, 2, 5);
        x.mind(1, 1, 3);
        x.mind(2, 4, 7);
        x.seed(4711);
    }

    private static void layRows(LastPruned x) {
        x.prove(0, 3);
        x.alterRow(1, 1, 77);
        x.sheet(0, 0, 4);
        int[] bytes = {1, -2, 3, 12};
        for (int i = 0; i < 4; i++) {
            x.put(0, i, bytes[i]);
        }
        x.sheet(1, 1, 3);
        x.put(1, 2, -300);
        x.sheet(3, 3, 2);
        x.put(3, 1, -12);
        x.shelf(0, 0, 1);
        x.shelf(1, 1, 0);
        x.shelf(3, 0, 3);
        x.act(0, 3, 5);
    }

    /** Uses the object up: at the end what THE TAPE tells and what is kept is looked at, too. */
    static String all(LastPruned x) {
        StringBuilder text = new StringBuilder();
        tree(x, text);
        for (int what = 0; what <= 6; what++) {
            add(text, "many", x.many(what));
        }
        rows(x, text);
        add(text, "tree()", x.tree());
        add(text, "FORCE", x.state(4));
        add(text, "SUN", x.lawOf(1));
        add(text, "again()", x.again());
        tree(x, text);
        return text.toString();
    }

    /** What is kept by keep(). */
    static void tree(LastPruned x, StringBuilder text) {
        for (int law = 0; law < 4; law++) {
            add(text, "law", x.lawOf(law));
        }
        for (int what = 0; what <= 5; what++) {
            add(text, "state", x.state(what));
        }
        for (int b = 0; b < x.many(0); b++) {
            for (int what = 0; what < 11; what++) {
                add(text, "of " + b, what < 8 ? x.of(b, what) : x.does(b, what - 8));
            }
        }
        int z = x.seed(0);
        x.seed(z);
        add(text, "z", z);
    }

    private static void rows(LastPruned x, StringBuilder text) {
        for (int i = 0; i < x.many(4); i++) {
            for (int what = 0; what < 3; what++) {
                add(text, "row", x.row(i, what));
            }
        }
        for (int i = 0; i < x.many(6); i++) {
            add(text, "trace", x.trace(i));
        }
        for (int shelf = 0; shelf < 4; shelf++) {
            for (int as = 0; as < 14; as += as == 5 ? 5 : 1) {
                add(text, "taken", x.taken(shelf, as));
            }
        }
        for (int sheet = 0; sheet < 4; sheet++) {
            items(x, sheet, text);
        }
    }

    /** How many items there are is asked by a SHELF, which is why SHELVES are looked at before. */
    private static void items(LastPruned x, int sheet, StringBuilder text) {
        x.shelf(2, 1, sheet);
        for (int sort = 0; sort < 4; sort++) {
            int size = x.taken(2, 10 + sort);
            add(text, "size", size);
            for (int i = 0; i < size; i++) {
                add(text, "item", x.item(sheet, sort, i));
            }
        }
    }

    private static void add(StringBuilder text, String name, int v) {
        text.append(name).append(' ').append(v).append(", ");
    }
}
