/** Promises 15 to 19: YEARS, CROP, DRAWS, YEARS BY DRAWS and WINTERS. */
public final class YearsTest {
    public static void main(String[] args) {
        yearsOfOne();
        allAsTheYearBegins();
        forceAndAgeAreHeld();
        cropIsHeld();
        onlyThoseThatStand();
        refusals();
        draws();
        winters();
        Check.end();
    }

    private static void yearsOfOne() {
        LastPruned x = Check.ofText("branch force 3 age 4;");
        Check.due("15: years(1)", x.years(1), 3);
        Check.due("15: years(2)", x.years(2), 3 + 4 + 5);
        Check.due("19: YEAR", x.state(0), 3);
        Check.due("7: FORCE", x.of(0, 2), 6);
        Check.due("7: AGE", x.of(0, 3), 7);
        Check.due("15: years(60)", x.years(60), 12 + 6 + 7 + 8 + 57 * 9);
    }

    private static void allAsTheYearBegins() {
        // what each BEARS counts the other's FORCE as the YEAR begins: 8 - 2 and 8 - 2, then 9 - 3 twice
        LastPruned x = Check.ofText("branch force 8; branch force 8;");
        Check.due("15: two", x.years(1), 12);
        Check.due("15: two, once more", x.years(1), 12 + 12);
        // one below 0 takes nothing from CROP: the branch 0 - 10, the limb 9
        x = Check.ofText("branch; limb force 9;");
        Check.due("15: below 0 counts 0", x.years(1), 9);
    }

    private static void forceAndAgeAreHeld() {
        LastPruned x = Check.ofText("limb force 1 age 50; bud force 8 age 99; graft force 4 age 98;");
        x.years(1);
        Check.due("15: FORCE not below 0", x.of(0, 2), 0);
        Check.due("15: FORCE not above 9", x.of(1, 2), 9);
        Check.due("15: AGE not above 99", x.of(1, 3), 99);
        Check.due("15: AGE to 99", x.of(2, 3), 99);
        Check.due("15: a graft gains nothing", x.of(2, 2), 4);
        x = Check.ofText("bough force 5 age 19;");
        x.years(1);
        Check.due("15: gains by the AGE before", x.of(0, 2), 6);
        x.years(1);
        Check.due("15: and loses from 20 on", x.of(0, 2), 5);
    }

    private static void cropIsHeld() {
        // eight buds, each BEARS 9 + 9 and hinders 2 in even YEARS: 8 * (18 - 14) or 8 * 18 a YEAR
        LastPruned x = new LastPruned();
        x.set(1, 9);
        for (int b = 0; b < 8; b++) {
            x.branch(3, 0, 9, 9);
        }
        int crop = 0;
        for (int i = 0; i < 30; i++) {
            crop = Math.min(99999, crop + 30 * (8 * 4 + 8 * 18));
            Check.due("15: sixty YEARS", x.years(60), crop);
        }
        Check.due("15: CROP is held", x.state(1), 99999);
        Check.due("20: HARVEST is not", x.harvest(60), 30 * (8 * 4 + 8 * 18));
    }

    private static void onlyThoseThatStand() {
        LastPruned x = Check.ofText("branch force 3; branch on 0 force 4 cut; branch on 1 force 5;");
        Check.due("15: years(2)", x.years(2), 3 + 4);
        Check.due("15: CUT: FORCE stays", x.of(1, 2), 4);
        Check.due("15: CUT: AGE stays", x.of(1, 3), 0);
        Check.due("15: CUT: LIES", x.of(1, 5), 2);
        Check.due("15: ON a CUT one: FORCE stays", x.of(2, 2), 5);
        Check.due("15: ON a CUT one: AGE stays", x.of(2, 3), 0);
        Check.due("15: ON a CUT one: LIES 0", x.of(2, 5), 0);
    }

    private static void refusals() {
        LastPruned x = Check.ofText("branch force 3;");
        for (int n : new int[] {0, -1, 61, Integer.MAX_VALUE, Integer.MIN_VALUE}) {
            Check.due("15: years(" + n + ")", x.years(n), LastPruned.BAD);
        }
        Check.due("15: refusals change nothing", x.state(0), 0);
        for (int n : new int[] {0, -1, 31, Integer.MAX_VALUE, Integer.MIN_VALUE}) {
            Check.due("18: winters(" + n + ")", x.winters(n), LastPruned.BAD);
        }
    }

    private static int next(int z) {
        return z * 1103515245 + 12345;
    }

    private static void draws() {
        LastPruned x = new LastPruned();
        Check.due("16: z at first", x.seed(77), 1);
        x.year();
        Check.due("17: no draw without BRANCHES", x.seed(-5), 77);
        Check.due("17: but a YEAR", x.state(0), 1);
        Check.due("16: z below 0", x.seed(1), -5);

        x = Check.ofText("frost 60; graft force 9; graft force 8; graft force 7; branch force 7 cut;");
        int[] force = {9, 8, 7, 7};
        int z = 12;
        int crop = 0;
        int hits = 0;
        x.seed(z);
        for (int i = 0; i < 12; i++) {
            z = next(z);
            int one = (z >>> 16) % 4;
            z = next(z);
            if ((z >>> 16) % 100 < 60) {
                force[one] /= 2;
                hits++;
            }
            crop += force[0] + force[1] + force[2] + (i % 3 == 0 ? 3 * 2 : 0);
            Check.due("17: CROP", x.year(), crop);
            for (int b = 0; b < 4; b++) {
                Check.due("17: FORCE", x.of(b, 2), force[b]);
            }
        }
        Check.due("17: there was frost", hits > 2 && hits < 12 ? 1 : 0, 1);
        Check.due("17: two draws a YEAR", x.seed(0), z);
        frostsEdge();
    }

    /** The second draw leaves just 20, or 19, by 100: no frost by a FROST of 20, or frost. */
    private static void frostsEdge() {
        int found = 0;
        for (int z = 0; z < 2000; z++) {
            int rest = (next(next(z)) >>> 16) % 100;
            if (rest == 19 || rest == 20) {
                found++;
                LastPruned x = Check.ofText("graft force 9;");
                x.seed(z);
                x.year();
                Check.due("17: rest " + rest, x.of(0, 2), rest == 19 ? 4 : 9);
            }
        }
        Check.due("17: edges were found", found > 10 ? 1 : 0, 1);
    }

    private static void winters() {
        LastPruned x = Check.ofText("frost 50; graft force 9; graft; branch force 4 cut;");
        int z = 3;
        x.seed(z);
        int poorer = 0;
        for (int i = 0; i < 30; i++) {
            z = next(z);
            int one = (z >>> 16) % 3;
            z = next(z);
            // only the frost on the first one is felt: the second has no FORCE, the third is CUT
            poorer += one == 0 && (z >>> 16) % 100 < 50 ? 1 : 0;
            Check.due("18: winters(" + (i + 1) + ")", x.winters(i + 1), poorer);
        }
        Check.due("18: some", poorer > 1 ? 1 : 0, 1);
        Check.due("18: z stays", x.seed(3), 3);
        Check.due("18: FORCE stays", x.of(0, 2), 9);
        Check.due("18: YEAR and CROP stay", x.state(0) + x.state(1), 0);
        x.set(3, 0);
        Check.due("18: without FROST", x.winters(30), 0);
    }
}
