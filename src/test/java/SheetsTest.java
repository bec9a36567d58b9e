/** Promises 36 to 41: SHEETS, their numbers as FORCES, SHELVES and what they are taken for. */
public final class SheetsTest {
    public static void main(String[] args) {
        sheets();
        putAndItem();
        itemRefusals();
        minds();
        mindsRefused();
        shelvesOfBranches();
        shelvesOfRows();
        shelvesRefused();
        Check.end();
    }

    private static void sheets() {
        LastPruned x = new LastPruned();
        for (int sort = 0; sort < 4; sort++) {
            Check.due("37: forty", x.sheet(sort, sort, 40), 1);
            for (int i = 0; i < 40; i++) {
                Check.due("37: all 0", x.item(sort, sort, i), 0);
            }
            Check.due("37: forty and no more", x.item(sort, sort, 40), -12);
            x.put(sort, 5, 7);
            Check.due("37: anew", x.sheet(sort, sort, 6), 1);
            Check.due("37: all 0 anew", x.item(sort, sort, 5), 0);
            Check.due("37: 41", x.sheet(sort, sort, 41), LastPruned.BAD);
            Check.due("37: -1", x.sheet(sort, sort, -1), -14);
            Check.due("37: least", x.sheet(sort, sort, Integer.MIN_VALUE), -14);
            Check.due("37: most", x.sheet(sort, sort, Integer.MAX_VALUE), LastPruned.BAD);
            Check.due("37: refusals change nothing", x.item(sort, sort, 5), 0);
            Check.due("37: of none", x.sheet(sort, sort, 0), 1);
            Check.due("37: nothing in it", x.item(sort, sort, 0), -12);
        }
        Check.due("37: sort 4", x.sheet(0, 4, 1), LastPruned.BAD);
        Check.due("37: sort -2", x.sheet(0, -2, 1), LastPruned.BAD);
        Check.due("37: sort 4 before -14", x.sheet(0, 4, -1), LastPruned.BAD);
        Check.due("37: sheet 4", x.sheet(4, 0, 1), LastPruned.BAD);
        Check.due("37: sheet -1", x.sheet(-1, 0, -1), LastPruned.BAD);
        Check.due("37: sheet 4, missing", x.sheet(4, -1, 0), LastPruned.BAD);
        for (int n : new int[] {0, 41, -1, Integer.MAX_VALUE, Integer.MIN_VALUE}) {
            x.sheet(2, 2, 3);
            Check.due("37: missing, n " + n, x.sheet(2, -1, n), 1);
            Check.due("37: it is missing", x.item(2, 2, 0), -11);
        }
    }

    private static void putAndItem() {
        LastPruned x = new LastPruned();
        int[] put = {0, 127, 128, -129, 32768, 65535, 70000, Integer.MAX_VALUE, Integer.MIN_VALUE, -11};
        for (int sort = 0; sort < 4; sort++) {
            x.sheet(sort, sort, put.length);
            for (int i = 0; i < put.length; i++) {
                Check.due("38: put", x.put(sort, i, put[i]), 1);
            }
            for (int i = 0; i < put.length; i++) {
                int want = sort == 0 ? (byte) put[i] : sort == 1 ? (short) put[i] : put[i];
                Check.due("39: item of sort " + sort, x.item(sort, sort, i), want);
            }
        }
    }

    private static void itemRefusals() {
        LastPruned x = new LastPruned();
        x.sheet(1, 1, 2);
        Check.due("38: sheet 4", x.put(4, 0, 0), LastPruned.BAD);
        Check.due("38: sheet -1", x.put(-1, 0, 0), LastPruned.BAD);
        Check.due("38: missing", x.put(0, 0, 0), -11);
        Check.due("38: missing before outside", x.put(0, 99, 0), -11);
        Check.due("38: i 2", x.put(1, 2, 0), -12);
        Check.due("38: i -1", x.put(1, -1, 0), -12);
        Check.due("38: i least", x.put(1, Integer.MIN_VALUE, 0), -12);
        Check.due("39: sheet 4", x.item(4, 0, 0), LastPruned.BAD);
        Check.due("39: sheet -1", x.item(-1, 0, 0), LastPruned.BAD);
        Check.due("39: sort 4", x.item(1, 4, 0), LastPruned.BAD);
        Check.due("39: sort -1, missing", x.item(0, -1, 0), LastPruned.BAD);
        Check.due("39: missing before the sort", x.item(0, 1, 9), -11);
        Check.due("39: the sort before outside", x.item(1, 0, 9), -13);
        Check.due("39: another sort", x.item(1, 2, 0), -13);
        Check.due("39: i 2", x.item(1, 1, 2), -12);
        Check.due("39: i -1", x.item(1, 1, -1), -12);
    }

    private static void minds() {
        LastPruned x = Check.ofText("branch force 5; branch force 5 cut; branch force 5; branch force 5;");
        x.sheet(0, 0, 4);
        int[] put = {-3, 4, 9, 10};
        for (int i = 0; i < 4; i++) {
            x.put(0, i, put[i]);
        }
        Check.due("36: three from 1 on", x.minds(0, 1, 0, 3), 3);
        int[] want = {4, 9, 9, 5};
        for (int b = 0; b < 4; b++) {
            Check.due("36: FORCE of " + b, x.of(b, 2), want[b]);
        }
        Check.due("36: one", x.minds(0, 0, 3, 1), 1);
        Check.due("36: held to 0", x.of(3, 2), 0);
        x.put(0, 0, 200);
        x.put(0, 1, 1);
        Check.due("36: all", x.minds(0, 0, 0, 4), 4);
        Check.due("36: 200 is below 0 as a byte", x.of(0, 2), 0);
        Check.due("36: one that is CUT", x.of(1, 2), 1);
        Check.due("36: the sheet stays", x.item(0, 0, 3), 10);
    }

    private static void mindsRefused() {
        LastPruned x = Check.ofText("branch; branch;");
        x.sheet(0, 0, 3);
        x.sheet(1, 1, 3);
        x.put(0, 0, 5);
        Check.due("36: none", x.minds(0, 0, 1, 0), 0);
        Check.due("36: none at the end", x.minds(0, 3, 1, 0), 0);
        Check.due("36: none behind the end", x.minds(0, 4, 1, 0), -12);
        Check.due("36: none before", x.minds(0, -1, 1, 0), -12);
        Check.due("36: not so many", x.minds(0, 2, 0, 2), -12);
        Check.due("36: i most", x.minds(0, Integer.MAX_VALUE, 0, 2), -12);
        Check.due("36: beyond the last", x.minds(0, 0, 1, 2), LastPruned.BAD);
        Check.due("36: n 9", x.minds(0, 0, 0, 9), LastPruned.BAD);
        Check.due("36: n -1", x.minds(0, 0, 0, -1), LastPruned.BAD);
        Check.due("36: n most", x.minds(0, 0, 1, Integer.MAX_VALUE), LastPruned.BAD);
        Check.due("36: one 2, none", x.minds(0, 0, 2, 0), LastPruned.BAD);
        Check.due("36: one -1", x.minds(0, 0, -1, 1), LastPruned.BAD);
        Check.due("36: sheet 4", x.minds(4, 0, 0, 1), LastPruned.BAD);
        Check.due("36: sheet -1", x.minds(-1, 0, 0, 1), LastPruned.BAD);
        Check.due("36: shorts, before outside", x.minds(1, 9, 0, 1), -13);
        Check.due("36: missing", x.minds(2, 9, 0, 1), -11);
        Check.due("36: BAD before missing", x.minds(2, 0, 0, 3), LastPruned.BAD);
        Check.due("36: refusals change nothing", x.state(4), 0);
    }

    private static void shelvesOfBranches() {
        LastPruned x = Check.ofText("branch; spur; bough; bud; limb; graft;");
        boolean[][] is = {
            {true, false, false, false, false, false},
            {true, true, false, false, false, false},
            {true, false, true, false, false, false},
            {true, true, false, true, false, false},
            {true, false, true, false, true, false},
            {true, false, false, false, false, true}};
        for (int b = 0; b < 6; b++) {
            Check.due("40: shelf", x.shelf(b % 4, 0, b), 1);
            for (int as = 0; as < 6; as++) {
                Check.due("41: kind " + b + " as " + as, x.taken(b % 4, as), is[b][as] ? b : -13);
            }
            for (int as = 10; as < 14; as++) {
                Check.due("41: kind " + b + " as " + as, x.taken(b % 4, as), -13);
            }
        }
        x.shelf(0, 0, 4);
        x.mind(4, 3, 0);
        Check.due("41: of the KIND that it is now", x.taken(0, 1), 4);
        Check.told(x, "branch;");
        Check.due("41: no such one at the time", x.taken(0, 0), -11);
        Check.told(x, "graft;graft;graft;graft;graft;");
        Check.due("41: such a one once more", x.taken(0, 5), 4);
        Check.due("40: nothing", x.shelf(0, 2, Integer.MIN_VALUE), 1);
        Check.due("41: nothing", x.taken(0, 0), -11);
    }

    private static void shelvesOfRows() {
        LastPruned x = Check.ofText("branch;");
        for (int sort = 0; sort < 4; sort++) {
            x.sheet(sort, sort, 3 + sort);
            Check.due("40: a row", x.shelf(sort, 1, sort), 1);
            for (int as = 10; as < 14; as++) {
                Check.due("41: sort " + sort + " as " + as, x.taken(sort, as), as - 10 == sort ? 3 + sort : -13);
            }
            for (int as = 0; as < 6; as++) {
                Check.due("41: a row as a thing", x.taken(sort, as), -13);
            }
        }
        x.sheet(0, 2, 9);
        Check.due("41: the row that was laid there", x.taken(0, 10), 3);
        x.sheet(0, -1, 0);
        Check.due("41: though the SHEET is missing", x.taken(0, 10), 3);
        Check.due("40: a missing one", x.shelf(0, 1, 0), 1);
        Check.due("41: is nothing", x.taken(0, 10), -11);
        x.sheet(0, 0, 2);
        Check.due("41: and stays nothing", x.taken(0, 10), -11);
        x.sheet(0, 0, 0);
        x.shelf(0, 1, 0);
        Check.due("41: a row of none", x.taken(0, 10), 0);
    }

    private static void shelvesRefused() {
        LastPruned x = Check.ofText("branch;");
        x.shelf(0, 0, 0);
        Check.due("40: shelf 4", x.shelf(4, 0, 0), LastPruned.BAD);
        Check.due("40: shelf -1", x.shelf(-1, 2, 0), LastPruned.BAD);
        Check.due("40: what 3", x.shelf(0, 3, 0), LastPruned.BAD);
        Check.due("40: what -1", x.shelf(0, -1, 0), LastPruned.BAD);
        Check.due("40: one 1", x.shelf(0, 0, 1), LastPruned.BAD);
        Check.due("40: one -1", x.shelf(0, 0, -1), LastPruned.BAD);
        Check.due("40: sheet 4", x.shelf(0, 1, 4), LastPruned.BAD);
        Check.due("40: sheet -1", x.shelf(0, 1, -1), LastPruned.BAD);
        Check.due("40: refusals change nothing", x.taken(0, 0), 0);
        Check.due("41: shelf 4", x.taken(4, 0), LastPruned.BAD);
        Check.due("41: shelf -1", x.taken(-1, 0), LastPruned.BAD);
        for (int as : new int[] {-1, 6, 9, 14, Integer.MAX_VALUE, Integer.MIN_VALUE}) {
            Check.due("41: as " + as, x.taken(0, as), LastPruned.BAD);
            Check.due("41: nothing, as " + as, x.taken(1, as), LastPruned.BAD);
        }
    }
}
