/** Promises 20 to 31: what is tried, FITS, ODDS and HOPE. */
final class AskedEdges {
    private static final int BAD = LastPruned.BAD, NONE = LastPruned.NONE;

    private AskedEdges() {
    }

    static void all() {
        harvest();
        bareAndRipe();
        cutFor();
        cutsFor();
        kindFor();
        forceFor();
        regret();
        freeFor();
        fits();
        odds();
        hope();
    }

    private static void harvest() {
        LastPruned x = Check.ofText("graft force 2; rain 0;");
        Sentence.of(20, "HARVEST by n (0 to 60). BAD.")
            .keepsTo("n", 0, 60, (y, v) -> y.harvest(v))
            .due("by 0", x.harvest(0), 0)
            .due("by 60", x.harvest(60), 120)
            .due("no BRANCHES", new LastPruned().harvest(60), 0);
    }

    private static void bareAndRipe() {
        Sentence.of(21, "BARE. NONE: not by then.")
            .due("now", new LastPruned().bare(), 0)
            .due("behind one", Check.ofText("bough force 1 age 20;").bare(), 1)
            .due("behind 29", Check.ofText("bough force 9;").bare(), 29)
            .due("not by then", Check.ofText("graft force 1;").bare(), NONE)
            .refuses("NONE", NONE, x -> x.bare());
        LastPruned x = Check.ofText("branch force 9; branch; graft force 8;");
        Sentence.of(22, "RIPE. BAD; NONE: not by then.")
            .keepsTo("one", 0, 4, (y, v) -> y.ripe(v))
            .due("now", x.ripe(0), 0)
            .due("behind nine", x.ripe(1), 9)
            .due("not by then", x.ripe(2), NONE)
            .refuses("NONE: CUT", NONE, y -> y.ripe(4))
            .due("none there", new LastPruned().ripe(0), BAD);
    }

    private static void cutFor() {
        LastPruned x = Check.ofText("branch force 9; limb force 9;");
        Sentence.of(23, "CUT FOR n (1 to 20). BAD; NONE.")
            .keepsTo("n", 1, 20, (y, v) -> y.cutFor(v))
            .due("by 1", x.cutFor(1), 0)
            .due("by 20", x.cutFor(20), 1)
            .refuses("NONE", NONE, y -> y.cutFor(1))
            .due("NONE: no BRANCHES", new LastPruned().cutFor(20), NONE)
            .due("NONE: none STANDS", Check.ofText("branch cut; branch on 0;").cutFor(1), NONE);
    }

    private static void cutsFor() {
        LastPruned x = Check.ofText("branch force 9; limb force 9;");
        Sentence.of(24, "CUTS FOR n (1 to 10). BAD.")
            .keepsTo("n", 1, 10, (y, v) -> y.cutsFor(v))
            .due("by 1", x.cutsFor(1), 1)
            .due("by 10, from an AGE of 0", x.cutsFor(10), 1)
            .due("by 10, from an AGE of 1", x.age(1, 1) == 0 ? x.cutsFor(10) : -1, 2)
            .due("by 9, from an AGE of 1", x.cutsFor(9), 1)
            .due("none", new LastPruned().cutsFor(10), 0);
    }

    private static void kindFor() {
        // RAIN in YEARS 0, 3, .. 18, or 1 more from the second YEAR on, as FORCE of a spur becomes 9
        LastPruned x = Check.ofText("sun 0; rain 9; branch force 9;");
        Sentence.of(25, "KIND FOR one, n (1 to 20). BAD.")
            .keepsTo("one", 0, 4, (y, v) -> y.kindFor(v, 1))
            .keepsTo("n", 1, 20, (y, v) -> y.kindFor(0, v))
            .due("by 1", x.kindFor(0, 1), 5)
            .due("by 20, RAIN 9", x.kindFor(0, 20), 5)
            .due("by 20, RAIN 0", x.set(2, 0) == 9 ? x.kindFor(0, 20) : -1, 0)
            .due("by 20, RAIN 0, SUN 1", x.set(1, 1) == 0 ? x.kindFor(0, 20) : -1, 1)
            .due("none there", new LastPruned().kindFor(0, 1), BAD);
    }

    private static void forceFor() {
        LastPruned x = Check.ofText("sun 9; rain 9; graft; graft force 9; graft force 9; graft force 9; graft force 9; graft force 9;"
            + "graft force 9; graft force 9;");
        // seven of FORCE 9 and the first: RAIN in seven of twenty YEARS
        int others = 7 * 20 * 9 + 8 * 7 * 9;
        Sentence.of(26, "FORCE FOR one, n (1 to 20), v (0 to 9999). BAD; NONE: with none.")
            .keepsTo("one", 0, 4, (y, v) -> y.forceFor(v, 1, 0))
            .keepsTo("n", 1, 20, (y, v) -> y.forceFor(0, v, 0))
            .keepsTo("v", 0, 9999, (y, v) -> y.forceFor(0, 20, v))
            .due("by 20, with 0", x.forceFor(0, 20, others), 0)
            .due("by 20, with 1", x.forceFor(0, 20, others + 1), 1)
            .due("by 20, with 9", x.forceFor(0, 20, others + 180), 9)
            .due("by 20, with none", x.forceFor(0, 20, others + 181), NONE)
            .refuses("NONE", NONE, y -> y.forceFor(0, 20, 9999))
            .due("none there", new LastPruned().forceFor(0, 1, 0), BAD);
    }

    private static void regret() {
        LastPruned five = Check.ofText("graft force 3 cut; rain 0;");
        five.years(5);
        LastPruned six = Check.ofText("graft force 3 cut; rain 0;");
        six.years(6);
        Sentence.of(27, "10000, and REGRET of one by n (1 to 20). BAD; NONE: it is not CUT, or BURNT.")
            .keepsTo("one", 0, 4, (y, v) -> y.regret(v, 1))
            .keepsTo("n", 1, 20, (y, v) -> y.regret(2, v))
            .refuses("NONE: it is not CUT", NONE, y -> y.regret(0, 1))
            .refuses("NONE: it doesn't STAND, but is not CUT", NONE, y -> y.regret(3, 1))
            .refuses("NONE: BURNT", NONE, y -> y.regret(4, 1))
            .refuses("BAD before NONE", BAD, y -> y.regret(4, 0))
            .due("by 1", five.regret(0, 1), 10003)
            .due("by 20", five.regret(0, 20), 10060)
            .due("LIES 6", six.regret(0, 1), NONE)
            .due("below 0", Check.ofText("limb age 50 cut; graft force 9;").regret(0, 1), 9996)
            .due("none there", new LastPruned().regret(0, 1), BAD);
    }

    private static void freeFor() {
        LastPruned x = Check.ofText("sun 9; spur force 9; limb force 9; branch force 9 cut; branch on 2;");
        Sentence.of(28, "FREE FOR one, v (0 to 99). BAD; NONE: it does not STAND, or by no set.")
            .keepsTo("one", 0, 4, (y, v) -> y.freeFor(v, 0))
            .keepsTo("v", 0, 99, (y, v) -> y.freeFor(0, v))
            .due("as it is", x.freeFor(0, 8), 0)
            .due("without the limb", x.freeFor(0, 9), 2)
            .due("without the limb, just that", x.freeFor(0, 18), 2)
            .due("by no set", x.freeFor(0, 19), NONE)
            .refuses("NONE: by no set", NONE, y -> y.freeFor(0, 99))
            .refuses("NONE: it is CUT", NONE, y -> y.freeFor(2, 0))
            .refuses("NONE: it is ON one that is CUT", NONE, y -> y.freeFor(3, 0))
            .refuses("BAD before NONE", BAD, y -> y.freeFor(2, 100))
            .due("none there", new LastPruned().freeFor(0, 0), BAD);
    }

    private static void fits() {
        LastPruned x = Check.ofText("graft force 2; rain 0;");
        x.sheet(3, 0, 1);
        Sentence.of(29, "FITS: what = 0 how many FORCES, 1 the least. BAD: no such SHEET, one, what; -11; NONE (what 1): none.")
            .keepsTo("sheet", 0, 3, (y, v) -> y.fits(v, 0, 0))
            .keepsTo("one", 0, 4, (y, v) -> y.fits(0, v, 0))
            .keepsTo("what", 0, 1, (y, v) -> y.fits(0, 0, v))
            .refuses("-11", -11, y -> y.fits(2, 0, 0))
            .refuses("-11, what 1", -11, y -> y.fits(2, 0, 1))
            .refuses("BAD before -11: one", BAD, y -> y.fits(2, 5, 0))
            .refuses("BAD before -11: what", BAD, y -> y.fits(2, 0, 2))
            .refuses("NONE", NONE, y -> y.fits(0, 0, 1))
            .due("what 0: none", Whole.few().fits(0, 0, 0), 0)
            .due("0: how many", x.fits(3, 0, 0), 1)
            .due("0: the least", x.fits(3, 0, 1), 0)
            .due("9: the least", x.put(3, 0, 9) == 1 ? x.fits(3, 0, 1) : -1, 9)
            .due("10: none", x.put(3, 0, 10) == 1 ? x.fits(3, 0, 1) : -1, NONE)
            .due("-1: ten", x.put(3, 0, -1) == 1 ? x.fits(3, 0, 0) : -1, 10)
            .due("255 is -1 as a byte: ten", x.put(3, 0, 255) == 1 ? x.fits(3, 0, 0) : -1, 10)
            .due("255 as a short: none", x.sheet(3, 1, 1) == 1 && x.put(3, 0, 255) == 1 ? x.fits(3, 0, 0) : -1, 0);
    }

    private static void odds() {
        LastPruned x = new LastPruned();
        Sentence.of(30, "ODDS by n (0 to 8), k (0 to n): a part of them. BAD.")
            .keepsTo("n", 0, 8, (y, v) -> y.odds(v, 0, 0))
            .keepsTo("k of 0", 0, 0, (y, v) -> y.odds(0, v, 0))
            .keepsTo("k of 3", 0, 3, (y, v) -> y.odds(3, v, 0))
            .keepsTo("k of 8", 0, 8, (y, v) -> y.odds(8, v, 0))
            .keepsTo("part", 0, 1, (y, v) -> y.odds(1, 1, v))
            .due("0 of 0, above", x.odds(0, 0, 0), 1)
            .due("0 of 0, below", x.odds(0, 0, 1), 1)
            .due("8 of 8, above", x.odds(8, 8, 0), 1)
            .due("8 of 8, below", x.odds(8, 8, 1), 390625)
            .due("0 of 8, above", x.odds(8, 0, 0), 65536)
            .due("4 of 8, above", x.odds(8, 4, 0), 70 * 256 / 5)
            .due("4 of 8, below", x.odds(8, 4, 1), 390625 / 5);
    }

    private static void hope() {
        LastPruned x = new LastPruned();
        Sentence.of(31, "HOPE by n (0 to 99): a part of it. BAD.")
            .keepsTo("n", 0, 99, (y, v) -> y.hope(v, 0))
            .keepsTo("part", 0, 1, (y, v) -> y.hope(1, v))
            .due("by 0, above", x.hope(0, 0), 0)
            .due("by 0, below", x.hope(0, 1), 1)
            .due("by 99, above", x.hope(99, 0), 99)
            .due("by 99, below", x.hope(99, 1), 5);
    }
}
