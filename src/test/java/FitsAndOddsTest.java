/** Promises 29 to 31: FITS, ODDS and HOPE. */
public final class FitsAndOddsTest {
    public static void main(String[] args) {
        fits();
        fitsOfSorts();
        fitsRefused();
        odds();
        oddsAddUp();
        hope();
        Check.end();
    }

    private static void fits() {
        LastPruned x = Check.ofText("rain 0; branch force 5; graft on 0 force 2;");
        x.sheet(0, 2, 0);
        Check.due("29: no numbers", x.fits(0, 0, 0), 10);
        Check.due("29: no numbers, the least", x.fits(0, 0, 1), 0);
        x.sheet(0, 2, 3);
        row(x, 0, 10, -1, -1);
        Check.due("29: one FORCE", x.fits(0, 0, 0), 1);
        Check.due("29: it is 8", x.fits(0, 0, 1), 8);
        // 8 or 9: 8 + 9, 9 + 9; each with 4 of the graft
        row(x, 0, -1, 21, -1);
        Check.due("29: by the second", x.fits(0, 0, 1), 8);
        row(x, 0, 11, 21, -1);
        Check.due("29: not both", x.fits(0, 0, 0), 0);
        Check.due("29: none", x.fits(0, 0, 1), LastPruned.NONE);
        row(x, 0, -1, -1, -1);
        Check.due("29: any", x.fits(0, 0, 0), 10);
        row(x, 0, -2, -1, -1);
        Check.due("29: -2 is a number", x.fits(0, 0, 0), 0);
        // the bough keeps 5 off the branch, and that a third of its FORCE off the bough: 0, 1, 2 and 7
        x = Check.ofText("bough force 9; branch;");
        x.sheet(0, 2, 1);
        row(x, 0, 9);
        Check.due("29: several", x.fits(0, 1, 0), 4);
        Check.due("29: the least of them", x.fits(0, 1, 1), 0);
        x.cut(1);
        Check.due("29: one that is CUT: all", x.fits(0, 1, 0), 10);
        x.sheet(1, 0, 40);
        Check.due("29: forty of zeroes", x.fits(1, 0, 0), 0);
        x.cut(0);
        Check.due("29: forty of nothing", x.fits(1, 0, 0), 10);
    }

    private static void row(LastPruned x, int sheet, int... items) {
        for (int i = 0; i < items.length; i++) {
            x.put(sheet, i, items[i]);
        }
    }

    private static void fitsOfSorts() {
        for (int sort = 0; sort < 4; sort++) {
            LastPruned x = Check.ofText("branch force 9; branch on 0 force 9; branch on 1 force 9; spur on 2;");
            x.sheet(sort, sort, 4);
            row(x, sort, -1, -1, -1, 108 + 1 + 3 + 5 + 7 + 8);
            // 27 a YEAR of the others; the spur of 0 bears 1, 3, 5, 7: 16; of 2: 3, 5, 7, 9: 24; of 1: 20
            Check.due("29: sort " + sort, x.fits(sort, 3, 0), sort == 0 ? 0 : 1);
            Check.due("29: sort " + sort, x.fits(sort, 3, 1), sort == 0 ? LastPruned.NONE : 2);
        }
    }

    private static void fitsRefused() {
        LastPruned x = Check.ofText("branch;");
        Check.due("29: missing", x.fits(0, 0, 0), -11);
        Check.due("29: missing", x.fits(3, 0, 1), -11);
        Check.due("29: sheet 4", x.fits(4, 0, 0), LastPruned.BAD);
        Check.due("29: sheet -1", x.fits(-1, 0, 0), LastPruned.BAD);
        Check.due("29: one 1, BAD before -11", x.fits(0, 1, 0), LastPruned.BAD);
        Check.due("29: what 2, BAD before -11", x.fits(0, 0, 2), LastPruned.BAD);
        Check.due("29: what -1", x.fits(0, 0, -1), LastPruned.BAD);
        Check.due("29: one -1", x.fits(0, -1, 0), LastPruned.BAD);
    }

    private static void fraction(LastPruned x, int n, int k, long above, long below) {
        Check.due("30: odds(" + n + ", " + k + ", 0)", x.odds(n, k, 0), above);
        Check.due("30: odds(" + n + ", " + k + ", 1)", x.odds(n, k, 1), below);
    }

    private static void odds() {
        LastPruned x = new LastPruned();
        fraction(x, 0, 0, 1, 1);
        fraction(x, 1, 0, 4, 5);
        fraction(x, 1, 1, 1, 5);
        fraction(x, 2, 1, 8, 25);
        fraction(x, 4, 2, 96, 625);
        x.set(3, 99);
        fraction(x, 8, 8, 9227446944279201L, 10000000000000000L);
        fraction(x, 8, 0, 1, 10000000000000000L);
        x.set(3, 50);
        fraction(x, 8, 4, 35, 128);
        x.set(3, 49);
        fraction(x, 8, 4, 70L * 5764801 * 6765201 / 10, 1000000000000000L);
        x.set(3, 0);
        fraction(x, 8, 0, 1, 1);
        fraction(x, 8, 1, 0, 1);
        Check.due("30: n 9", x.odds(9, 0, 0), LastPruned.BAD);
        Check.due("30: n -1", x.odds(-1, 0, 0), LastPruned.BAD);
        Check.due("30: k -1", x.odds(3, -1, 0), LastPruned.BAD);
        Check.due("30: k above n", x.odds(3, 4, 0), LastPruned.BAD);
        Check.due("30: part 2", x.odds(3, 1, 2), LastPruned.BAD);
        Check.due("30: part -1", x.odds(3, 1, -1), LastPruned.BAD);
    }

    private static void oddsAddUp() {
        for (int frost = 0; frost <= 99; frost++) {
            LastPruned x = new LastPruned();
            x.set(3, frost);
            long whole = 10000000000000000L;
            long sum = 0;
            for (int k = 0; k <= 8; k++) {
                sum += whole / x.odds(8, k, 1) * x.odds(8, k, 0);
            }
            Check.due("30: all odds by FROST " + frost, sum, whole);
        }
    }

    private static void hope(LastPruned x, int n, long above, long below) {
        Check.due("31: hope(" + n + ", 0)", x.hope(n, 0), above);
        Check.due("31: hope(" + n + ", 1)", x.hope(n, 1), below);
    }

    private static void hope() {
        LastPruned x = new LastPruned();
        hope(x, 0, 0, 1);
        hope(x, 1, 1, 5);
        hope(x, 5, 1, 1);
        hope(x, 7, 7, 5);
        hope(x, 99, 99, 5);
        x.set(3, 99);
        hope(x, 99, 9801, 100);
        x.set(3, 0);
        hope(x, 99, 0, 1);
        Check.due("31: n 100", x.hope(100, 0), LastPruned.BAD);
        Check.due("31: n -1", x.hope(-1, 0), LastPruned.BAD);
        Check.due("31: part 2", x.hope(1, 2), LastPruned.BAD);
        Check.due("31: part -1", x.hope(1, -1), LastPruned.BAD);
    }
}
