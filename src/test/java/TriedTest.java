/** Promises 20 to 28: what is asked of trials, none of which changes anything. */
public final class TriedTest {
    public static void main(String[] args) {
        harvests();
        bares();
        ripes();
        cutFor();
        cutsFor();
        cutsForTies();
        kindFor();
        forceFor();
        regrets();
        freeFor();
        nothingChanges();
        Check.end();
    }

    private static void harvests() {
        LastPruned x = Check.ofText("branch force 7; graft on 0 force 2;");
        // the branch 7, 8, 9, 9, ..; the graft 2, and RAIN 2 in YEARS 0, 3, ..
        int[] want = {0, 7 + 4, 11 + 8 + 2, 21 + 9 + 2, 32 + 9 + 4};
        for (int n = 0; n < want.length; n++) {
            Check.due("20: harvest(" + n + ")", x.harvest(n), want[n]);
        }
        Check.due("20: harvest(60)", x.harvest(60), 7 + 8 + 58 * 9 + 60 * 2 + 20 * 2);
        Check.due("20: harvest(61)", x.harvest(61), LastPruned.BAD);
        Check.due("20: harvest(-1)", x.harvest(-1), LastPruned.BAD);
        Check.due("20: none", new LastPruned().harvest(60), 0);
    }

    private static void bares() {
        Check.due("21: none", new LastPruned().bare(), 0);
        Check.due("21: one that bears", Check.ofText("branch force 1;").bare(), LastPruned.NONE);
        Check.due("21: one that comes to bear is bare now", Check.ofText("branch;").bare(), 0);
        Check.due("21: bough that falls off", Check.ofText("bough force 6 age 20;").bare(), 6);
        Check.due("21: CUT ones don't count", Check.ofText("branch force 9 cut; bough force 2 age 30;").bare(), 2);
        Check.due("21: nor those ON them", Check.ofText("branch cut; branch on 0 force 9;").bare(), 0);
        LastPruned x = Check.ofText("bough force 6 age 20;");
        x.harvest(6);
        Check.due("21: from how it is now", x.bare(), 6);
        Check.due("22: from how it is now", Check.ofText("branch force 7;").ripe(0), 2);
        // a bough of 9 and AGE 0 lives 20 YEARS at 9, then falls by one a YEAR
        Check.due("21: behind many", Check.ofText("bough force 9;").bare(), 29);
    }

    private static void ripes() {
        LastPruned x = Check.ofText("branch force 9; branch; spur; bud; graft force 8; branch force 9 cut; branch force 8 cut; bough force 8 age 20;");
        int[] want = {0, 9, 5, 3, LastPruned.NONE, 0, LastPruned.NONE, LastPruned.NONE};
        for (int b = 0; b < 8; b++) {
            Check.due("22: ripe(" + b + ")", x.ripe(b), want[b]);
        }
        Check.due("22: ripe(8)", x.ripe(8), LastPruned.BAD);
        Check.due("22: ripe(-1)", x.ripe(-1), LastPruned.BAD);
        Check.due("22: no BRANCHES", new LastPruned().ripe(0), LastPruned.BAD);
    }

    private static void cutFor() {
        // the limb hinders 2 * (0 + 2), and bears nothing
        LastPruned x = Check.ofText("branch force 9; limb age 50; branch force 6;");
        Check.due("23: the limb", x.cutFor(1), 1);
        // of two that hinder alike the least
        x = Check.ofText("limb age 50; limb age 50; graft force 9;");
        Check.due("23: of several the least", x.cutFor(1), 0);
        // cutting it doesn't give more than as it is
        x = Check.ofText("branch force 3; branch force 3;");
        Check.due("23: not more", x.cutFor(1), LastPruned.NONE);
        x = Check.ofText("limb age 50 cut; branch force 9;");
        Check.due("23: only such that STAND", x.cutFor(5), LastPruned.NONE);
        // either alone bears 9 now; from its tenth YEAR on the limb bears less
        x = Check.ofText("branch force 9; limb force 9;");
        Check.due("23: by n 1", x.cutFor(1), 0);
        Check.due("23: by n 10", x.cutFor(10), 0);
        Check.due("23: by n 11", x.cutFor(11), 1);
        Check.due("23: by n 20", x.cutFor(20), 1);
        for (int n : new int[] {0, -1, 21, Integer.MAX_VALUE, Integer.MIN_VALUE}) {
            Check.due("23: cutFor(" + n + ")", x.cutFor(n), LastPruned.BAD);
        }
        Check.due("23: no BRANCHES", new LastPruned().cutFor(1), LastPruned.NONE);
        Check.due("23: nothing bears, none STANDS", Check.ofText("branch force 9 cut;").cutFor(1), LastPruned.NONE);
    }

    private static void cutsFor() {
        LastPruned x = Check.ofText("limb age 50; limb age 50; graft force 9;");
        Check.due("24: both limbs", x.cutsFor(1), 3);
        x = Check.ofText("limb age 50 cut; limb age 50; graft force 9;");
        Check.due("24: only such that STAND", x.cutsFor(1), 2);
        x = Check.ofText("branch force 5;");
        Check.due("24: as it is", x.cutsFor(10), 0);
        // cutting the bough's load: each ON it bears 0 and keeps 1 off
        x = Check.ofText("bough force 9; branch on 0; branch on 0; branch on 1;");
        Check.due("24: those ON the bough", x.cutsFor(1), 1 << 1 | 1 << 2);
        for (int n : new int[] {0, -1, 11, Integer.MAX_VALUE, Integer.MIN_VALUE}) {
            Check.due("24: cutsFor(" + n + ")", x.cutsFor(n), LastPruned.BAD);
        }
        Check.due("24: no BRANCHES", new LastPruned().cutsFor(1), 0);
    }

    private static void cutsForTies() {
        // limb 1 is ON limb 0, which is ON the trunk; to cut 0 alone is as good as both
        LastPruned x = Check.ofText("limb age 50; limb on 0 age 50; branch force 9;");
        Check.due("24: of several one of fewest", x.cutsFor(1), 1);
        // as it is each bears 3 - 6; one alone bears 3
        x = Check.ofText("limb force 3; limb force 3;");
        Check.due("24: of these the least", x.cutsFor(1), 1);
    }

    private static void kindFor() {
        LastPruned x = Check.ofText("branch force 5;");
        // alone, by 1: branch 5, spur 6, bough 5, bud 0, limb 5, graft 7
        Check.due("25: by 1", x.kindFor(0, 1), 5);
        x.set(2, 0);
        Check.due("25: without RAIN", x.kindFor(0, 1), 1);
        x.set(1, 0);
        Check.due("25: of several the least", x.kindFor(0, 1), 0);
        // by 2, with AGE 3 and neither: branch 5 + 6, spur 5 + 7, bud 5 + 8
        x.age(0, 3);
        Check.due("25: by 2", x.kindFor(0, 2), 3);
        x.cut(0);
        Check.due("25: one that is CUT", x.kindFor(0, 20), 0);
        for (int n : new int[] {0, -1, 21, Integer.MIN_VALUE}) {
            Check.due("25: kindFor(0, " + n + ")", x.kindFor(0, n), LastPruned.BAD);
        }
        Check.due("25: kindFor(1, 1)", x.kindFor(1, 1), LastPruned.BAD);
        Check.due("25: kindFor(-1, 1)", x.kindFor(-1, 1), LastPruned.BAD);
    }

    private static void forceFor() {
        LastPruned x = Check.ofText("graft force 3; branch on 0 force 4 cut;");
        Check.due("26: 7 by 1", x.forceFor(0, 1, 7), 5);
        Check.due("26: 0 by 1", x.forceFor(0, 1, 0), 0);
        Check.due("26: 11 by 1", x.forceFor(0, 1, 11), 9);
        Check.due("26: 12 by 1", x.forceFor(0, 1, 12), LastPruned.NONE);
        Check.due("26: 20 by 3", x.forceFor(0, 3, 20), 6);
        Check.due("26: one that is CUT", x.forceFor(1, 1, 5), 0);
        Check.due("26: one that is CUT", x.forceFor(1, 1, 6), LastPruned.NONE);
        Check.due("26: v 9999", x.forceFor(0, 20, 9999), LastPruned.NONE);
        Check.due("26: v 10000", x.forceFor(0, 20, 10000), LastPruned.BAD);
        Check.due("26: v -1", x.forceFor(0, 20, -1), LastPruned.BAD);
        Check.due("26: n 0", x.forceFor(0, 0, 1), LastPruned.BAD);
        Check.due("26: n 21", x.forceFor(0, 21, 1), LastPruned.BAD);
        Check.due("26: one 2", x.forceFor(2, 1, 1), LastPruned.BAD);
        Check.due("26: one -1", x.forceFor(-1, 1, 1), LastPruned.BAD);
    }

    private static void regrets() {
        LastPruned x = Check.ofText("branch force 6 cut; limb force 0 age 50 cut; graft force 9; branch on 0 force 2 cut;");
        // the first had back bears 6, and keeps 2 off the graft
        Check.due("27: by 1", x.regret(0, 1), 10000 + 6 - 2);
        // by 2: 6 + 7, and keeps 2 + 2 off
        Check.due("27: by 2", x.regret(0, 2), 10000 + 13 - 4);
        Check.due("27: below 0", x.regret(1, 1), 10000 - 4);
        Check.due("27: ON a CUT one", x.regret(3, 20), 10000);
        Check.due("27: not CUT", x.regret(2, 1), LastPruned.NONE);
        Check.due("27: n 0", x.regret(0, 0), LastPruned.BAD);
        Check.due("27: n 21", x.regret(0, 21), LastPruned.BAD);
        Check.due("27: not CUT, n 0: BAD first", x.regret(2, 0), LastPruned.BAD);
        Check.due("27: one 4", x.regret(4, 1), LastPruned.BAD);
        Check.due("27: one -1", x.regret(-1, 1), LastPruned.BAD);
        x.years(5);
        Check.due("27: LIES 5", x.regret(1, 1) >= 0 ? 1 : 0, 1);
        x.years(1);
        Check.due("27: BURNT", x.regret(0, 1), LastPruned.NONE);
    }

    private static void freeFor() {
        // ON the trunk: 0 hinders 2, 1 hinders 3, 2 hinders 2 * (1 + 2); the bough 3 is ON 0, with two ON it
        LastPruned x = Check.ofText("branch force 6; branch force 9; limb force 3; bough on 0 force 4; graft on 3; graft on 3; branch force 9 cut;");
        Check.due("28: as it is", x.freeFor(1, 1), 0);
        Check.due("28: without 0", x.freeFor(1, 3), 1);
        Check.due("28: without 2", x.freeFor(1, 4), 1 << 2);
        Check.due("28: without 2 once more", x.freeFor(1, 7), 1 << 2);
        Check.due("28: without both", x.freeFor(1, 8), 1 | 1 << 2);
        Check.due("28: not by any", x.freeFor(1, 10), LastPruned.NONE);
        Check.due("28: of several the least", x.freeFor(3, 3), 1 << 4);
        Check.due("28: both ON it", x.freeFor(3, 4), 1 << 4 | 1 << 5);
        Check.due("28: those ON which it is stay", x.freeFor(4, 0), 0);
        Check.due("28: it doesn't STAND", x.freeFor(6, 0), LastPruned.NONE);
        // 6 - 3 - 6
        Check.due("28: it is below 0", x.freeFor(0, 0), 1 << 1);
        Check.due("28: to be above 0", x.freeFor(0, 1), 1 << 2);
        Check.due("28: v 99", x.freeFor(0, 99), LastPruned.NONE);
        Check.due("28: v 100", x.freeFor(0, 100), LastPruned.BAD);
        Check.due("28: v -1", x.freeFor(0, -1), LastPruned.BAD);
        Check.due("28: CUT, v 100: BAD first", x.freeFor(6, 100), LastPruned.BAD);
        Check.due("28: one 7", x.freeFor(7, 0), LastPruned.BAD);
        Check.due("28: one -1", x.freeFor(-1, 0), LastPruned.BAD);
        // to cut that ON which one is would free it of nothing, as it wouldn't STAND
        x = Check.ofText("limb force 9; branch on 0 force 5; limb on 0 force 9;");
        Check.due("28: not that ON which it is", x.freeFor(1, 5), 1 << 2);
        // the graft bears 5 + 2 - 3 - 2; the limb keeps 2 off, as two of the branches do, a lesser set
        x = Check.ofText("shade 0; branch force 3; branch force 3; branch force 3; limb force 4; graft force 5;");
        Check.due("28: of fewest", x.freeFor(4, 4), 1 << 3);
    }

    private static void nothingChanges() {
        LastPruned x = Check.ofText("limb force 7 age 15; spur force 3; bud on 0 force 4 age 2; branch on 1 force 5 cut; frost 70;");
        x.years(2);
        String before = all(x);
        x.harvest(60);
        x.bare();
        x.ripe(1);
        x.cutFor(20);
        x.cutsFor(10);
        x.kindFor(2, 20);
        x.forceFor(1, 20, 9999);
        x.regret(3, 20);
        x.freeFor(1, 50);
        x.winters(30);
        x.prove(0, 10);
        x.judge(1);
        x.sheet(0, 2, 3);
        x.fits(0, 1, 0);
        Check.due("20 to 28: nothing changes: " + before + " / " + all(x), all(x).equals(before) ? 1 : 0, 1);
    }

    private static String all(LastPruned x) {
        StringBuilder text = new StringBuilder();
        for (int what = 0; what <= 5; what++) {
            text.append(x.state(what)).append(' ');
        }
        for (int b = 0; b < x.many(0); b++) {
            for (int what = 0; what <= 7; what++) {
                text.append(x.of(b, what)).append(' ');
            }
        }
        int z = x.seed(0);
        x.seed(z);
        return text.append(z).toString();
    }
}
