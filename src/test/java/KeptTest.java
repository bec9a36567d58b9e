/** Promises 45 and 46: what is kept, and what it becomes again. */
public final class KeptTest {
    public static void main(String[] args) {
        LastPruned x = Check.ofText("shade 3; sun 4; rain 5; frost 6; spur force 2 age 3; bough on 0 force 4 cut; branch;");
        Check.due("46: nothing is kept", x.again(), LastPruned.NONE);
        x.years(2);
        x.seed(1234);
        Check.due("45: keep()", x.keep(), 1);
        int crop = x.state(1);
        changeAll(x);
        keptStays(x, crop);
        changeAll(x);
        keptStays(x, crop);
        latest(x);
        rest();
        Check.end();
    }

    private static void changeAll(LastPruned x) {
        x.year();
        x.back(1);
        x.cut(0);
        x.mind(0, 5, 0);
        x.graft(1, 0);
        x.age(2, 50);
        for (int law = 0; law < 4; law++) {
            x.set(law, 1);
        }
        x.branch(4, 1, 1, 1);
        x.seed(9);
    }

    private static void keptStays(LastPruned x, int crop) {
        Check.due("46: again()", x.again(), 3);
        Check.due("46: BRANCHES", x.many(0), 3);
        int[][] want = {{1, 0, 6, 5, 0, 0, 1, 0}, {2, 1, 4, 0, 1, 2, 0, 1}, {0, 0, 2, 2, 0, 0, 1, 0}};
        for (int b = 0; b < 3; b++) {
            for (int what = 0; what < 8; what++) {
                Check.due("46: of(" + b + ", " + what + ")", x.of(b, what), want[b][what]);
            }
        }
        for (int law = 0; law < 4; law++) {
            Check.due("46: lawOf(" + law + ")", x.lawOf(law), law + 3);
        }
        Check.due("46: YEAR", x.state(0), 2);
        Check.due("46: CROP", x.state(1), crop);
        Check.due("46: z", x.seed(1234), 1234);
    }

    private static void latest(LastPruned x) {
        Check.told(x, "bud;");
        x.seed(8);
        Check.due("45: once more", x.keep(), 1);
        Check.told(x, "bud;bud;");
        Check.due("46: what was kept latest", x.again(), 1);
        Check.told(x, "");
        x.keep();
        x.branch(0, 0, 0, 0);
        Check.due("46: no BRANCHES were kept", x.again(), 0);
    }

    /** THE TAPE, ROWS, SHEETS, SHELVES and THE TRACE are not kept. */
    private static void rest() {
        LastPruned x = Check.ofText("branch force 3;");
        x.keep();
        x.feed(0, 5);
        x.prove(0, 4);
        x.sheet(0, 2, 6);
        x.put(0, 0, 44);
        x.shelf(0, 1, 0);
        x.shelf(1, 0, 0);
        x.act(1, 1, 1);
        x.again();
        Check.due("46: THE TAPE", x.many(5), 5);
        Check.due("46: ROWS", x.many(4), 4);
        Check.due("46: SHEETS", x.item(0, 2, 0), 44);
        Check.due("46: SHELVES", x.taken(0, 12), 6);
        Check.due("46: SHELVES", x.taken(1, 0), 0);
        Check.due("46: THE TRACE", x.many(6), 2);
    }
}
