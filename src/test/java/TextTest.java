/** Promises 2 and 3: THE TAPE and the TEXT, with its FAULTS. */
public final class TextTest {
    public static void main(String[] args) {
        feeding();
        allThatATextTells();
        byItselfAlone();
        blanks();
        faults();
        faultsOfNumbers();
        faultsAtTheEnd();
        fullTapes();
        noBytesOfEarlierTexts();
        aNinth();
        faultsChangeNothing();
        Check.end();
    }

    private static void feeding() {
        LastPruned x = new LastPruned();
        for (int n : new int[] {0, -1, 9, Integer.MAX_VALUE, Integer.MIN_VALUE}) {
            Check.due("2: feed(0, " + n + ")", x.feed(0, n), LastPruned.BAD);
        }
        for (int i = 1; i <= 24; i++) {
            Check.due("2: eight", x.feed(-1L, 8), 8 * i);
        }
        Check.due("2: to 199", x.feed(0, 7), 199);
        Check.due("2: 201", x.feed(0, 2), LastPruned.FULL);
        Check.due("2: 199 stay", x.many(5), 199);
        Check.due("2: BAD before FULL", x.feed(0, 9), LastPruned.BAD);
        Check.due("2: to 200", x.feed(0, 1), 200);
        Check.due("2: 201", x.feed(0, 1), LastPruned.FULL);
        Check.due("3: bytes that are no letters", x.tree(), -100);
        Check.due("3: the tape is used up", x.many(5), 0);
        // "bud;" lowest byte first, with more behind n bytes that must not come
        Check.due("2: four of eight", x.feed(0x7878787800000000L | 'b' | 'u' << 8 | 'd' << 16 | ';' << 24, 4), 4);
        Check.due("3: bud", x.tree(), 1);
        Check.due("3: a bud", x.of(0, 0), 3);
        Check.due("3: used up when right, too", x.many(5), 0);
        Check.due("3: an empty one tells nothing", x.tree(), 0);
    }

    private static void allThatATextTells() {
        LastPruned x = new LastPruned();
        Check.due("3: all", Check.told(x, "branch;spur on 0;bough on 1 force 3;bud on 2 force 4 age 99;limb age 5 cut;"
            + "graft on 4 cut;shade 9;sun 8;rain 7;frost 99;branch force 009 age 010;"), 7);
        int[][] want = {{0, 0, 0, 0, 0}, {1, 1, 0, 0, 0}, {2, 2, 3, 0, 0}, {3, 3, 4, 99, 0}, {4, 0, 0, 5, 1},
            {5, 5, 0, 0, 1}, {0, 0, 9, 10, 0}};
        for (int b = 0; b < want.length; b++) {
            for (int what = 0; what < 5; what++) {
                Check.due("3: of(" + b + ", " + what + ")", x.of(b, what), want[b][what]);
            }
            Check.due("3: LIES 0", x.of(b, 5), 0);
        }
        int[] laws = {9, 8, 7, 99};
        for (int law = 0; law < 4; law++) {
            Check.due("3: lawOf(" + law + ")", x.lawOf(law), laws[law]);
        }
        Check.told(x, "sun 3; sun 4;");
        Check.due("3: the later tells", x.lawOf(1), 4);
    }

    private static void byItselfAlone() {
        LastPruned x = Check.ofText("branch force 5; bud force 5 cut; shade 5; sun 5; rain 5; frost 5;");
        x.years(3);
        x.prove(0, 4);
        x.sheet(1, 2, 3);
        x.shelf(2, 1, 1);
        x.keep();
        x.seed(99);
        Check.due("3: another", Check.told(x, "spur; branch;"), 2);
        Check.due("3: YEAR", x.state(0), 0);
        Check.due("3: CROP", x.state(1), 0);
        Check.due("3: none is CUT", x.state(3), 0);
        Check.due("3: LIES 0", x.of(1, 5), 0);
        Check.due("3: FORCE", x.state(4), 0);
        int[] laws = {2, 1, 2, 20};
        for (int law = 0; law < 4; law++) {
            Check.due("3: lawOf(" + law + ") as at first", x.lawOf(law), laws[law]);
        }
        Check.due("3: no ROWS", x.many(4), 0);
        Check.due("3: no ROW 0", x.row(0, 0), -9);
        Check.due("3: z stays", x.seed(1), 99);
        Check.due("3: SHEETS stay", x.item(1, 2, 2), 0);
        Check.due("3: SHELVES stay", x.taken(2, 12), 3);
        Check.due("3: what is kept stays", x.again(), 2);
        Check.due("3: and is as it was", x.state(0), 3);
    }

    private static void told(String text, int want) {
        Check.due("3: " + text, Check.told(new LastPruned(), text), want);
    }

    private static void blanks() {
        told("   ", 0);
        told("  branch  force   5  age 7   cut   ;   spur ; ", 2);
        told("branch;branch on 0;sun 4;", 2);
        told("branch force5age7cut;", 1);
        told("branch force 5 cut;", 1);
        told("branchforce 5;", -100);
        told("br anch;", -100);
        told("branch force 1 2;", -100 - 15);
        told("branch\n;", -100 - 6);
        told("\tbranch;", -100);
    }

    private static void faults() {
        told("twig;", -100);
        told("  twig;", -102);
        told("Branch;", -100);
        told(";", -100);
        told("branch;;", -107);
        told("5;", -100);
        told("branch 5;", -107);
        told("branch spur;", -107);
        told("force 5;", -100);
        told("cut;", -100);
        told("branch age 5 force 5;", -113);
        told("branch force 5 on 0;", -115);
        told("branch force 5 force 5;", -115);
        told("branch cut age 5;", -111);
        told("branch cut cut;", -111);
        told("branch force cut;", -113);
        told("branch force;", -112);
        told("branch force -1;", -113);
        told("sun;", -103);
        told("sun cut;", -104);
        told("sun 3 3;", -106);
        told("sun 3,", -105);
        told("frost 3 cut;", -108);
        told("branch; x", -108);
        told("branch \u00e9;", -107);
        told("branchs;", -100);
        told("buds;", -100);
        told("budz;", -100);
        told("bud{;", -103);
        told("bud`;", -103);
        told("bud force 5/", -111);
        told("bud force 5:", -111);
    }

    private static void faultsOfNumbers() {
        told("branch on 0;", -110);
        told("branch; spur on 1;", -116);
        told("branch; spur on 0;", 2);
        told("branch force 10;", -113);
        told("branch force 9;", 1);
        told("branch age 100;", -111);
        told("branch age 99;", 1);
        told("branch age 099;", 1);
        told("branch age 0099;", -111);
        told("branch force 0000;", -113);
        told("branch force 99999999999999999999;", -113);
        told("shade 10;", -106);
        told("sun 10;", -104);
        told("rain 10;", -105);
        told("frost 100;", -106);
        told("shade 9;sun 9;rain 9;frost 99;", 0);
    }

    private static void faultsAtTheEnd() {
        told("branch", -106);
        told("branch  ", -108);
        told("branch on", -109);
        told("branch force ", -113);
        told("branch force 5", -114);
        told("branch age 5 cut", -116);
        told("sun", -103);
        told("sun 4 ", -106);
        told("bran", -100);
        told("branch; spu", -108);
        told("branch forc", -107);
        told("branch force 12", -113);
    }

    /** Texts of all the 200 bytes that THE TAPE takes. */
    private static void fullTapes() {
        told("bud;" + " ".repeat(196), 1);
        told(" ".repeat(196) + "bud;", 1);
        told(" ".repeat(197) + "bud", -300);
        told(" ".repeat(197) + "sun", -300);
        told(" ".repeat(195) + "sun 4", -300);
        told(" ".repeat(194) + "sun 55", -298);
        told(" ".repeat(199) + "b", -299);
        told("sun 4;".repeat(33) + "  ", 0);
    }

    /** Bytes of an earlier, longer text must not come into a later one. */
    private static void noBytesOfEarlierTexts() {
        LastPruned x = new LastPruned();
        Check.due("3: the earlier", Check.told(x, "spurs;"), -100);
        Check.due("3: no letter of it", Check.told(x, "spur"), -104);
        Check.due("3: the earlier", Check.told(x, "spur   ;"), 1);
        Check.due("3: no blank of it", Check.told(x, "spur"), -104);
        Check.due("3: the earlier", Check.told(x, "sun 1;"), 0);
        Check.due("3: no close of it", Check.told(x, "sun 1"), -105);
        Check.due("3: the earlier", Check.told(x, "frost 12;"), 0);
        Check.due("3: no digit of it", Check.told(x, "frost 1"), -107);
    }

    private static void aNinth() {
        String eight = "bud;bud;bud;bud;bud;bud;bud;bud;";
        told(eight, 8);
        told(eight + "sun 4;", 8);
        told(eight + " bud;", -133);
        told(eight + "bud force 77;", -132);
        told(eight + "bu", -132);
    }

    private static void faultsChangeNothing() {
        LastPruned x = Check.ofText("branch force 5; bough on 0 force 3 cut; sun 7;");
        x.years(2);
        x.seed(5);
        x.prove(0, 2);
        Check.due("3: a fault behind much", Check.told(x, "sun 4; spur; limb force 6; twig;"), -100 - 27);
        Check.due("3: BRANCHES", x.many(0), 2);
        Check.due("3: SUN", x.lawOf(1), 7);
        Check.due("3: KIND", x.of(1, 0), 2);
        Check.due("3: LIES", x.of(1, 5), 2);
        Check.due("3: YEAR", x.state(0), 2);
        Check.due("3: CROP", x.state(1), 11);
        Check.due("3: ROWS", x.many(4), 2);
        Check.due("3: they are right", x.judge(0), 0);
        Check.due("3: z", x.seed(5), 5);
        Check.due("3: but the tape", x.many(5), 0);
    }
}
