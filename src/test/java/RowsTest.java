/** Promises 32 to 35: ROWS and THE READER. */
public final class RowsTest {
    public static void main(String[] args) {
        proves();
        refusals();
        alters();
        judges();
        rowsStay();
        Check.end();
    }

    private static void proves() {
        LastPruned x = Check.ofText("spur force 3; branch on 0 force 4 cut; branch on 1 force 2;");
        // the spur: FORCE 5, 7, 9, 9 behind the YEARS, and it bears 4, 6, 8, 10
        int[][] want = {{5, 1, 4}, {7, 1, 6}, {9, 1, 8}, {9, 1, 10}};
        Check.due("32: prove(0, 4)", x.prove(0, 4), 4);
        rows(x, want);
        Check.due("32: fewer", x.prove(1, 2), 2);
        rows(x, new int[][] {{4, 0, 4}, {4, 0, 6}});
        Check.due("32: ON a CUT one", x.prove(2, 1), 1);
        rows(x, new int[][] {{2, 0, 4}});
        Check.due("32: ten", x.prove(0, 10), 10);
        Check.due("32: the tenth", x.row(9, 2), 10);
        Check.due("32: tried", x.state(0), 0);
        Check.due("32: tried", x.of(0, 2), 3);
    }

    private static void rows(LastPruned x, int[][] want) {
        for (int i = 0; i < want.length; i++) {
            for (int what = 0; what < 3; what++) {
                Check.due("33: row(" + i + ", " + what + ")", x.row(i, what), want[i][what]);
            }
        }
        Check.due("33: none behind", x.row(want.length, 0), -9);
        Check.due("44: ROWS", x.many(4), want.length);
    }

    private static void refusals() {
        LastPruned x = Check.ofText("branch force 1;");
        x.prove(0, 2);
        for (int n : new int[] {0, -1, 11, Integer.MAX_VALUE, Integer.MIN_VALUE}) {
            Check.due("32: prove(0, " + n + ")", x.prove(0, n), LastPruned.BAD);
        }
        Check.due("32: prove(1, 1)", x.prove(1, 1), LastPruned.BAD);
        Check.due("32: prove(-1, 1)", x.prove(-1, 1), LastPruned.BAD);
        Check.due("32: refusals change nothing", x.many(4), 2);
        int[][] none = {{-1, 0}, {2, 0}, {10, 0}, {0, 3}, {0, -1}, {Integer.MAX_VALUE, 0}, {Integer.MIN_VALUE, 2}};
        for (int[] n : none) {
            Check.due("33: row(" + n[0] + ", " + n[1] + ")", x.row(n[0], n[1]), -9);
            Check.due("34: alterRow(" + n[0] + ", " + n[1] + ", 5)", x.alterRow(n[0], n[1], 5), -9);
        }
        Check.due("34: refusals change nothing", x.judge(0), 0);
        Check.due("35: judge(1)", x.judge(1), LastPruned.BAD);
        Check.due("35: judge(-1)", x.judge(-1), LastPruned.BAD);
        Check.due("35: no BRANCHES, no ROWS", new LastPruned().judge(0), LastPruned.BAD);
    }

    private static void alters() {
        LastPruned x = Check.ofText("branch force 1;");
        x.prove(0, 2);
        Check.due("34: alter", x.alterRow(1, 0, Integer.MIN_VALUE), 3);
        Check.due("33: altered", x.row(1, 0), Integer.MIN_VALUE);
        Check.due("34: alter back", x.alterRow(1, 0, 3), Integer.MIN_VALUE);
        Check.due("34: to -9", x.alterRow(0, 2, -9), 1);
        Check.due("33: -9 itself", x.row(0, 2), -9);
    }

    private static void judges() {
        LastPruned x = Check.ofText("branch force 1; branch on 0 force 1; branch on 0 force 2;");
        Check.due("35: no ROWS", x.judge(0), 0);
        x.prove(0, 5);
        Check.due("35: right", x.judge(0), 0);
        Check.due("35: right of one that is alike", x.judge(1), 0);
        Check.due("35: not of another", x.judge(2), 1);
        for (int what = 0; what < 3; what++) {
            int was = x.alterRow(3, what, 77);
            Check.due("35: the fourth, by " + what, x.judge(0), 4);
            x.alterRow(3, what, was);
        }
        x.alterRow(4, 1, 0);
        x.alterRow(2, 2, 0);
        Check.due("35: the first of several", x.judge(0), 3);
        x.prove(0, 5);
        x.set(1, 9);
        Check.due("35: what counts nothing", x.judge(0), 0);
        // 1 + 0 + 3 bear as much as 1 + 1 + 2 did, but not so the YEAR after
        x.mind(2, 0, 3);
        Check.due("35: from how it is now", x.judge(0), 2);
        x.prove(0, 5);
        x.years(1);
        Check.due("35: from how it is now", x.judge(0), 1);
    }

    private static void rowsStay() {
        LastPruned x = Check.ofText("branch force 1;");
        x.keep();
        x.prove(0, 3);
        x.again();
        Check.due("46: again() leaves ROWS", x.many(4), 3);
        x.branch(0, 0, 0, 0);
        x.years(2);
        Check.due("33: a ROW behind other calls", x.row(2, 0), 4);
    }
}
