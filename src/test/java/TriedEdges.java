/** The sentences of Terms, part 2, but for TEXT: what is TRIED, FITS, ODDS and DRAWS. */
final class TriedEdges {
    private static final int BAD = LastPruned.BAD, NONE = LastPruned.NONE;

    private TriedEdges() {
    }

    static void all() {
        nothingChanges();
        harvest();
        bare();
        ripe();
        cutFor();
        cutsFor();
        kindAndForceFor();
        regret();
        freeFor();
        deepAndStem();
        fits();
        oddsAndHope();
        draws();
        yearByDraws();
        frostsEdges();
        winters();
    }

    private static LastPruned of(String text) {
        return Check.ofText(text);
    }

    private static void nothingChanges() {
        Sentence.ofTerms("2 What is asked here is TRIED; nothing changes.")
            .leavesAll("harvest", x -> x.harvest(60))
            .leavesAll("ripe", x -> x.ripe(0))
            .leavesAll("cutsFor", x -> x.cutsFor(10))
            .leavesAll("kindFor", x -> x.kindFor(0, 20))
            .leavesAll("kindFor of one that is CUT", x -> x.kindFor(2, 20))
            .leavesAll("forceFor", x -> x.forceFor(1, 20, 9))
            .leavesAll("regret", x -> x.regret(2, 20))
            .leavesAll("freeFor", x -> x.freeFor(1, 1))
            .leavesAll("fits", x -> x.fits(0, 0, 0))
            .leavesAll("winters", x -> x.winters(30))
            .leavesAll("judge", x -> x.judge(0))
            .leavesAll("odds", x -> x.odds(8, 4, 0))
            .leavesAll("hope", x -> x.hope(99, 0))
            .leavesAll("does", x -> x.does(0, 1))
            .leavesAll("stem", x -> x.stem(0))
            .refuses("bare that is NONE", NONE, x -> x.bare())
            .refuses("cutFor that is NONE", NONE, x -> x.cutFor(20))
            .refuses("fits that is NONE", NONE, x -> x.fits(0, 0, 1));
        LastPruned limb = of("branch force 9; limb age 50; branch force 6;");
        Sentence.ofTerms("2 What is asked here is TRIED; nothing changes.")
            .due("cutFor", limb.cutFor(1), 1)
            .same("cutFor", limb, of("branch force 9; limb age 50; branch force 6;"));
    }

    private static void harvest() {
        LastPruned rich = TermsEdges.richCrop();
        rich.years(3);
        LastPruned x = of("branch force 7;");
        Sentence.ofTerms("HARVEST by n: how much CROP would be more behind n YEARS (were it not held).")
            .due("no BRANCHES", new LastPruned().harvest(60), 0)
            .due("by 0", x.harvest(0), 0)
            .due("by 1", x.harvest(1), 7)
            .due("by 3", x.harvest(3), 7 + 8 + 9)
            .due("by 60", x.harvest(60), 7 + 8 + 58 * 9)
            .due("behind some CROP", x.years(2) == 15 ? x.harvest(1) : -1, 9)
            .due("CROP is held", rich.state(1), 99999)
            .due("HARVEST by 1 isn't", rich.harvest(1), 9)
            .due("HARVEST by 60 isn't", rich.harvest(60), 540)
            .due("nor what is borne behind one to be CUT", rich.cutFor(1), NONE)
            .due("nor by which FORCE", rich.forceFor(0, 2, 18), 9)
            .due("nor by which KIND", rich.kindFor(0, 1), 1)
            .due("nor what ROWS tell", rich.prove(0, 1) == 1 ? rich.row(0, 2) : -1, 9);
    }

    private static void bare() {
        LastPruned rain = of("graft;");
        LastPruned none = of("branch force 4; branch force 9 cut;");
        Sentence.ofTerms("BARE: behind the fewest YEARS (0 to 60) no one that STANDS BEARS anything above 0 first.")
            .due("no BRANCHES", new LastPruned().bare(), 0)
            .due("one that BEARS 0 now", of("branch;").bare(), 0)
            .due("one below 0, one at 0", of("branch; limb age 99;").bare(), 0)
            .due("one that BEARS 1, always", of("branch force 1;").bare(), NONE)
            .due("only those that STAND", of("branch force 9 cut; branch on 0 force 9;").bare(), 0)
            .due("one of two BEARS", none.bare(), NONE)
            // RAIN alone is borne, in YEARS 0, 3, ..
            .due("first: not in YEAR 0", rain.bare(), 1)
            .due("first: in YEAR 1", rain.years(1) == 2 ? rain.bare() : -1, 0)
            .due("first: in YEAR 3", rain.years(2) == 2 ? rain.bare() : -1, 1)
            .due("bough of 1 from 20 on", of("bough force 1 age 20;").bare(), 1)
            // twenty YEARS at 9, nine more down to 0
            .due("bough of 9", of("bough force 9;").bare(), 29);
    }

    private static void ripe() {
        LastPruned x = of("branch; branch force 8; branch force 9; bough force 9 age 50; branch force 9 cut;"
            + " branch force 8 cut; graft force 8; bough force 8 age 19;");
        Sentence.ofTerms("RIPE: behind the fewest (0 to 60) FORCE of one is 9 first.")
            .due("branch of 0", x.ripe(0), 9)
            .due("branch of 8", x.ripe(1), 1)
            .due("branch of 9", x.ripe(2), 0)
            .due("9 now, less later", x.ripe(3), 0)
            .due("9, CUT", x.ripe(4), 0)
            .due("8, CUT", x.ripe(5), NONE)
            .due("graft of 8", x.ripe(6), NONE)
            .due("9 just before it falls", x.ripe(7), 1)
            .due("8 when it falls", x.age(7, 20) == 19 ? x.ripe(7) : -1, NONE)
            .due("bud of 1 goes past", of("bud force 1;").ripe(0), 3);
    }

    private static void cutFor() {
        LastPruned x = of("branch force 9; limb force 9;");
        Sentence.ofTerms("CUT FOR n: the one that STANDS without which (CUT now) HARVEST by n is most,"
                + " more than as it is; of several the least.")
            .due("no BRANCHES", new LastPruned().cutFor(1), NONE)
            .due("the one that hinders", of("branch force 9; limb age 50; branch force 6;").cutFor(1), 1)
            // without one 3, as it is 2 + 2
            .due("less than as it is", of("branch force 3; branch force 3;").cutFor(1), NONE)
            // without the branch of FORCE 0 as much as with it
            .due("just as it is", of("branch force 3; branch on 0;").cutFor(1), NONE)
            // as it is 2 and 0, without the bough 3
            .due("one more than as it is", of("shade 0; branch force 3; bough force 3; branch on 1; branch on 1;").cutFor(1), 1)
            .due("of several the least", of("limb age 50; limb age 50; graft force 9;").cutFor(1), 0)
            .due("only such that STAND", of("limb age 50 cut; branch force 9;").cutFor(5), NONE)
            // until the tenth YEAR the limb BEARS as much as the branch, then less
            .due("by 10", x.cutFor(10), 0)
            .due("by 11", x.cutFor(11), 1);
        LastPruned more = of("limb force 0 age 99; graft force 5;");
        Sentence.ofTerms("CUT FOR n: the one that STANDS without which (CUT now) HARVEST by n is most,"
                + " more than as it is; of several the least.")
            // the limb HINDERS twice SHADE: with SHADE 0 nothing is gained
            .due("SHADE 0", more.set(0, 0) == 2 ? more.cutFor(1) : -1, NONE)
            .due("SHADE 1", more.set(0, 1) == 0 ? more.cutFor(1) : -1, 0);
    }

    private static void cutsFor() {
        LastPruned deep = of("bough force 9; branch on 0; branch on 0; branch on 1;");
        Sentence.ofTerms("CUTS FOR n: the set of those that STAND to be CUT now with which HARVEST by n is most;"
                + " of several one of fewest, of these the least.")
            .due("no BRANCHES", new LastPruned().cutsFor(1), 0)
            .due("none: as it is", of("branch force 5;").cutsFor(10), 0)
            .due("none, though to cut one is as good", of("branch force 5; branch on 0;").cutsFor(1), 0)
            .due("two", of("limb age 50; limb age 50; graft force 9;").cutsFor(1), 3)
            .due("only such that STAND", of("limb age 50 cut; limb age 50; graft force 9;").cutsFor(1), 2)
            .due("only such that STAND: not ON a CUT one", of("branch cut; limb on 0 age 50; graft on 0 force 9;").cutsFor(1), 0)
            // what is ON 1 need not be CUT, too
            .due("those ON the bough", deep.cutsFor(1), 6)
            // to cut the first does what to cut both would
            .due("of several one of fewest", of("limb age 50; limb on 0 age 50; branch force 9;").cutsFor(1), 1)
            // the fewest is the greater number: limb 3 HINDERS 2, as the two branches together
            .due("fewest, not least", of("shade 0; graft force 2; branch on 0; branch on 0; limb force 3 age 99; rain 0;").cutsFor(1), 8)
            .due("of these the least", of("limb force 3; limb force 3;").cutsFor(1), 1)
            .due("all eight STAND", of("limb age 50;limb age 50;limb age 50;limb age 50;limb age 50;limb age 50;"
                + "limb age 50;graft force 9;").cutsFor(1), 127)
            .due("the greatest of eight", of("graft force 9;bud;bud;bud;bud;bud;bud;limb age 50;").cutsFor(1), 128);
    }

    private static void kindAndForceFor() {
        LastPruned x = of("branch force 5;");
        // alone, by 1: branch 5, spur 5 and SUN, bough 5, bud 0, limb 5, graft 5 and RAIN
        Sentence.ofTerms("KIND FOR one, n: the KIND as one of which HARVEST by n is most; of several the least.")
            .due("RAIN 2, SUN 1", x.kindFor(0, 1), 5)
            .due("RAIN 1, SUN 1: two alike", x.set(2, 1) == 2 ? x.kindFor(0, 1) : -1, 1)
            .due("RAIN 0, SUN 1", x.set(2, 0) == 1 ? x.kindFor(0, 1) : -1, 1)
            .due("RAIN 0, SUN 0: all but the bud alike", x.set(1, 0) == 1 ? x.kindFor(0, 1) : -1, 0)
            .due("by 2, from an AGE of 2", x.age(0, 2) == 0 ? x.kindFor(0, 2) : -1, 1)
            .due("by 2, from an AGE of 3", x.age(0, 3) == 2 ? x.kindFor(0, 2) : -1, 3)
            .due("one that is CUT: all alike", x.cut(0) == 0 ? x.kindFor(0, 20) : -1, 0);
        LastPruned graft = of("graft force 3; branch on 0 force 4 cut;");
        Sentence.ofTerms("FORCE FOR one, n, v: the least FORCE (0 to 9) of it with which HARVEST by n is v or more.")
            .due("v 0", graft.forceFor(0, 1, 0), 0)
            .due("v 2: FORCE 0 BEARS just that", graft.forceFor(0, 1, 2), 0)
            .due("v 3", graft.forceFor(0, 1, 3), 1)
            .due("v 11: FORCE 9 BEARS just that", graft.forceFor(0, 1, 11), 9)
            .due("v 12", graft.forceFor(0, 1, 12), NONE)
            .due("by 2, v 20", graft.forceFor(0, 2, 20), 9)
            .due("by 2, v 21", graft.forceFor(0, 2, 21), NONE)
            .due("one that is CUT, v 5", graft.forceFor(1, 1, 5), 0)
            .due("one that is CUT, v 6", graft.forceFor(1, 1, 6), NONE);
    }

    private static void regret() {
        LastPruned x = of("branch force 6 cut; limb age 50 cut; graft force 9; branch on 0 force 2 cut;"
            + " branch on 2 force 0 cut;");
        Sentence.ofTerms("REGRET of one that is CUT, by n: HARVEST by n, were it had back now, less HARVEST by n.")
            .due("above 0", x.regret(0, 1), 10000 + 6 - 2)
            .due("by 2", x.regret(0, 2), 10000 + 6 + 7 - 2 - 2)
            .due("below 0", x.regret(1, 1), 10000 - 4)
            .due("0: it BEARS nothing", x.regret(4, 1), 10000)
            .due("0: it wouldn't STAND", x.regret(3, 20), 10000);
        LastPruned rich = TermsEdges.richCrop();
        rich.years(2);
        LastPruned held = Check.ofText("");
        Sentence.ofTerms("REGRET of one that is CUT, by n: HARVEST by n, were it had back now, less HARVEST by n.")
            .due("at a CROP that is held", rich.regret(7, 1), NONE)
            .due("at a CROP that is held, CUT now", rich.cut(0) == 0 ? rich.regret(0, 2) : -1, 10000 + 18)
            .due("no BRANCHES", held.regret(0, 1), BAD);
    }

    private static void freeFor() {
        // ON the trunk 0 HINDERS 2, 1 HINDERS 3, 2 HINDERS 2 * (1 + 2); ON the bough 3 are two
        LastPruned x = of("branch force 6; branch force 9; limb force 3; bough on 0 force 4; graft on 3; graft on 3;"
            + " branch force 9 cut;");
        Sentence.ofTerms("FREE FOR one that STANDS, v: the set of fewest others that STAND to be CUT now such that it"
                + " STANDS and BEARS v or more; of several the least.")
            .due("it BEARS 1: v 1", x.freeFor(1, 1), 0)
            .due("v 2", x.freeFor(1, 2), 1)
            .due("v 3, just what is borne without 0", x.freeFor(1, 3), 1)
            .due("v 4", x.freeFor(1, 4), 4)
            .due("v 7, just what is borne without 2", x.freeFor(1, 7), 4)
            .due("v 8", x.freeFor(1, 8), 5)
            .due("v 9", x.freeFor(1, 9), 5)
            .due("v 10: by no set", x.freeFor(1, 10), NONE)
            .due("of several the least", x.freeFor(3, 3), 16)
            .due("both ON it", x.freeFor(3, 4), 48)
            .due("it doesn't STAND", x.freeFor(6, 0), NONE)
            .due("below 0: v 0", x.freeFor(0, 0), 2)
            .due("below 0: v 1", x.freeFor(0, 1), 4)
            .due("fewest, not least", of("shade 0; branch force 3; branch force 3; branch force 3; limb force 4;"
                + " graft force 5;").freeFor(4, 4), 8)
            .due("it must STAND", of("limb force 9; branch on 0 force 5; limb on 0 force 9;").freeFor(1, 5), 4)
            .due("no other", of("branch force 5;").freeFor(0, 5), 0)
            .due("no other, v more", of("branch force 5;").freeFor(0, 6), NONE)
            .due("seven others", of("branch force 9;branch force 3;branch force 3;branch force 3;branch force 3;"
                + "branch force 3;branch force 3;branch force 3;").freeFor(0, 9), 254);
    }

    private static void deepAndStem() {
        LastPruned x = TermsEdges.chain(0, 0);
        Sentence.ofTerms("DEEP of one: ON how many others it is, one ON the other (0: ON the trunk).")
            .due("ON the trunk", x.of(0, 7), 0)
            .due("ON one", x.of(1, 7), 1)
            .due("ON seven", x.of(7, 7), 7)
            .due("CUT ones count", x.cut(3) == 3 ? x.of(7, 7) : -1, 7)
            .due("ON the trunk from now on", x.graft(7, 0) == 7 ? x.of(7, 7) : -1, 0);
        LastPruned two = of("branch; branch on 0; branch; branch on 1 cut; branch on 2; branch on 3;");
        Sentence.ofTerms("STEM of one: all that are ON it, or ON one of these, and so on.")
            .due("none", two.stem(5), 0)
            .due("one", two.stem(2), 16)
            .due("of one that is CUT", two.stem(3), 32)
            .due("and so on, through one that is CUT", two.stem(0), 2 | 8 | 32)
            .due("all seven others", TermsEdges.chain(0, 0).stem(0), 254);
    }

    private static void fits() {
        LastPruned x = of("rain 0; branch force 5; graft on 0 force 2;");
        x.sheet(0, 2, 0);
        x.sheet(1, 2, 2);
        Sentence s = Sentence.ofTerms("FITS of one by a SHEET: those FORCES (0 to 9) of it now with which HARVEST by 1, 2, .."
                + " is what the numbers of the SHEET tell, one by one (-1: any).")
            .due("no numbers: all ten", x.fits(0, 0, 0), 10)
            .due("no numbers: the least", x.fits(0, 0, 1), 0);
        // HARVEST by 1 is FORCE and 2; by 2 twice FORCE and 5, but 22 of 9
        int[][] put = {{2, 5}, {11, 22}, {11, 23}, {12, -1}, {1, -1}, {-1, -1}, {-1, 22}, {-2, -1}, {0, 0}, {11, -1}};
        int[] fitting = {1, 1, 0, 0, 0, 10, 1, 0, 0, 1};
        int[] least = {0, 9, NONE, NONE, NONE, 0, 9, NONE, NONE, 9};
        for (int i = 0; i < put.length; i++) {
            x.put(1, 0, put[i][0]);
            x.put(1, 1, put[i][1]);
            s.due(put[i][0] + ", " + put[i][1], x.fits(1, 0, 0), fitting[i]);
            s.due(put[i][0] + ", " + put[i][1] + ": the least", x.fits(1, 0, 1), least[i]);
        }
        x.sheet(2, 3, 40);
        s.due("forty that tell 0", x.fits(2, 0, 0), 0);
        x.cut(0);
        s.due("forty that tell 0, and nothing is borne", x.fits(2, 0, 0), 10);
        x.put(2, 39, 1);
        s.due("the fortieth tells 1", x.fits(2, 0, 0), 0);
        LastPruned rich = TermsEdges.richCrop();
        rich.years(2);
        rich.sheet(0, 1, 2);
        rich.put(0, 0, 7);
        rich.put(0, 1, 14);
        s.due("at a CROP that is held", rich.fits(0, 0, 1), 7);
    }

    private static void oddsAndHope() {
        LastPruned x = new LastPruned();
        Sentence s = Sentence.ofTerms("ODDS by n, k: that of n winters just k have frost, each by FROST of a hundred.");
        s.due("of none, none", x.odds(0, 0, 0), 1).due("by", x.odds(0, 0, 1), 1);
        s.due("of two, none", x.odds(2, 0, 0), 16).due("by", x.odds(2, 0, 1), 25);
        s.due("of two, one", x.odds(2, 1, 0), 8).due("by", x.odds(2, 1, 1), 25);
        s.due("of two, two", x.odds(2, 2, 0), 1).due("by", x.odds(2, 2, 1), 25);
        x.set(3, 99);
        s.due("FROST 99, eight of eight", x.odds(8, 8, 0), 9227446944279201L).due("by", x.odds(8, 8, 1), 10000000000000000L);
        s.due("FROST 99, none of eight", x.odds(8, 0, 0), 1).due("by", x.odds(8, 0, 1), 10000000000000000L);
        s.due("FROST 99, four of eight", x.odds(8, 4, 0), 70L * 96059601 / 10).due("by", x.odds(8, 4, 1), 1000000000000000L);
        x.set(3, 1);
        s.due("FROST 1, eight of eight", x.odds(8, 8, 0), 1).due("by", x.odds(8, 8, 1), 10000000000000000L);
        x.set(3, 0);
        s.due("FROST 0, none of eight", x.odds(8, 0, 0), 1).due("by", x.odds(8, 0, 1), 1);
        s.due("FROST 0, eight of eight", x.odds(8, 8, 0), 0).due("by", x.odds(8, 8, 1), 1);
        x.set(3, 99);
        Sentence h = Sentence.ofTerms("HOPE by n: how many have on average.");
        h.due("by 0", x.hope(0, 0), 0).due("by", x.hope(0, 1), 1);
        h.due("by 99, FROST 99", x.hope(99, 0), 9801).due("by", x.hope(99, 1), 100);
        x.set(3, 50);
        h.due("by 2, FROST 50", x.hope(2, 0), 1).due("by", x.hope(2, 1), 1);
        h.due("by 3, FROST 50", x.hope(3, 0), 3).due("by", x.hope(3, 1), 2);
        x.set(3, 0);
        h.due("by 99, FROST 0", x.hope(99, 0), 0).due("by", x.hope(99, 1), 1);
    }

    /** z as it goes on, by longs, so that nothing wraps here; 0 to 2^32 - 1. */
    private static long next(long z) {
        return Math.floorMod(z * 1103515245L + 12345L, 1L << 32);
    }

    private static void draws() {
        Sentence s = Sentence.ofTerms("DRAWS: z (an int; 1 at first) becomes z * 1103515245 + 12345; z >>> 16 is drawn.")
            .due("at first", new LastPruned().seed(0), 1);
        for (int z : new int[] {0, 1, -1, 2, 4711, Integer.MAX_VALUE, Integer.MIN_VALUE}) {
            LastPruned x = of("graft force 9;");
            x.seed(z);
            x.year();
            long behind = next(next(z));
            s.due("z behind two draws from " + z, x.seed(0), (int) behind);
        }
        int low = 0;
        int high = 0;
        for (int z = 0; z < 60; z++) {
            LastPruned x = new LastPruned();
            for (int b = 0; b < 7; b++) {
                x.branch(5, 0, 8, 0);
            }
            x.set(3, 99);
            x.seed(z);
            x.year();
            long first = next(z) >> 16;
            boolean isFrost = (next(next(z)) >> 16) % 100 < 99;
            low += first < 32768 ? 1 : 0;
            high += first >= 32768 ? 1 : 0;
            for (int b = 0; b < 7; b++) {
                s.due("what is drawn from " + z + ": FORCE of " + b, x.of(b, 2), isFrost && first % 7 == b ? 4 : 8);
            }
        }
        s.due("draws from below and above 32768 were seen", low > 9 && high > 9 ? 1 : 0, 1);
    }

    private static void yearByDraws() {
        LastPruned none = new LastPruned();
        none.seed(77);
        LastPruned calm = of("frost 0; graft force 9; graft force 9;");
        for (int i = 0; i < 30; i++) {
            calm.year();
        }
        Sentence s = Sentence.ofTerms("A YEAR BY DRAWS: if there are BRANCHES, a draw: the one that it leaves by how many there are;"
                + " and one more: if what that leaves by 100 is below FROST, FORCE of that one is half (cut); then a YEAR.")
            .due("no BRANCHES", none.year(), 0)
            .due("no BRANCHES: no draw", none.seed(0), 77)
            .due("no BRANCHES: but a YEAR", none.state(0), 1)
            .due("FROST 0: none in thirty", calm.state(4), 18);
        int[] half = {0, 0, 1, 1, 2, 2, 3, 3, 4, 4};
        for (int force = 0; force <= 9; force++) {
            LastPruned x = of("frost 99; graft;");
            x.mind(0, 5, force);
            x.seed(seedLeaving(0, 98));
            // RAIN 2 in YEAR 0, behind the frost
            s.due("FORCE " + force + ", then a YEAR", x.year(), half[force] + 2);
            s.due("half of FORCE " + force, x.of(0, 2), half[force]);
        }
        LastPruned cut = of("frost 99; graft force 9 cut; graft force 9 cut;");
        cut.seed(seedOf(1, 2));
        cut.year();
        s.due("one that is CUT counts, too", cut.of(1, 2), 4).due("not the other", cut.of(0, 2), 9);
        LastPruned alive = of("frost 99; branch force 9;");
        alive.seed(seedLeaving(0, 98));
        s.due("what is borne is half, too", alive.year(), 4).due("and then it GAINS", alive.of(0, 2), 5);
    }

    /** A z from which the second draw leaves just that by 100. */
    private static int seedLeaving(int from, int rest) {
        int z = from;
        while (z < 100000 && (next(next(z)) >> 16) % 100 != rest) {
            z++;
        }
        return z;
    }

    /** A z from which the first draw leaves that one by how many there are, and there is frost by 99. */
    private static int seedOf(int one, int count) {
        int z = 0;
        while (z < 100000 && ((next(z) >> 16) % count != one || (next(next(z)) >> 16) % 100 == 99)) {
            z++;
        }
        return z;
    }

    private static void frostsEdges() {
        Sentence s = Sentence.ofTerms("if what that leaves by 100 is below FROST,");
        int[][] edges = {{0, 1, 1}, {0, 0, 0}, {1, 1, 0}, {98, 99, 1}, {99, 99, 0}, {19, 20, 1}, {20, 20, 0}};
        for (int[] e : edges) {
            int z = seedLeaving(0, e[0]);
            for (int i = 0; i < 3; i++) {
                LastPruned x = of("frost " + e[1] + "; graft force 8;");
                x.seed(z);
                x.year();
                s.due("rest " + e[0] + ", FROST " + e[1], x.of(0, 2), e[2] == 1 ? 4 : 8);
                z = seedLeaving(z + 1, e[0]);
            }
        }
    }

    private static void winters() {
        LastPruned x = of("frost 50; graft force 9; graft; branch force 4 cut;");
        Sentence s = Sentence.ofTerms("WINTERS: in how many of n YEARS BY DRAWS, each tried from how all is now (z alone goes on),"
            + " less is borne than HARVEST by 1 (nothing changes, z neither).");
        x.seed(3);
        long z = 3;
        int poorer = 0;
        for (int n = 1; n <= 30; n++) {
            long one = (next(z) >> 16) % 3;
            z = next(next(z));
            // frost on the second changes nothing that is borne, nor on the third, which is CUT
            poorer += one == 0 && (z >> 16) % 100 < 50 ? 1 : 0;
            s.due("of " + n, x.winters(n), poorer);
        }
        s.due("some, not all", poorer > 1 && poorer < 20 ? 1 : 0, 1);
        s.due("z stays", x.seed(3), 3).due("FORCE stays", x.of(0, 2), 9);
        s.due("YEAR stays", x.state(0), 0).due("CROP stays", x.state(1), 0);
        s.due("no BRANCHES", new LastPruned().winters(30), 0);
        s.due("FROST 0", x.set(3, 0) == 50 ? x.winters(30) : -1, 0);
        // the limb that loses FORCE HINDERS less: more is borne, which counts nothing
        LastPruned limb = of("frost 99; shade 0; limb force 9 age 99; graft force 9 cut; branch force 9;");
        limb.seed(seedOf(0, 3));
        s.due("more is borne", limb.winters(1), 0);
        limb.seed(seedOf(2, 3));
        s.due("less is borne", limb.winters(1), 1);
        LastPruned rich = TermsEdges.richCrop();
        rich.set(3, 99);
        rich.seed(seedOf(0, 8));
        s.due("CROP would be just held", rich.winters(1), 1);
        rich.years(4);
        s.due("CROP is held", rich.winters(1), 1);
    }
}
