/** The sentences of Terms before its part 2: refusals, fractions, LAWS, BRANCHES and A YEAR. */
final class TermsEdges {
    private static final int BAD = LastPruned.BAD, FULL = LastPruned.FULL, NONE = LastPruned.NONE;
    /** What a third of FORCE is, for FORCE 0 to 9. */
    private static final int[] THIRD = {0, 0, 0, 1, 1, 1, 2, 2, 2, 3};

    private TermsEdges() {
    }

    static void all() {
        calls();
        refusals();
        host();
        setsAndQuotients();
        fractions();
        laws();
        crop();
        branches();
        lies();
        stands();
        hinders();
        bears();
        bearsOfBoughs();
        gains();
        aYear();
        heldInAYear();
    }

    private static LastPruned of(String text) {
        return Check.ofText(text);
    }

    /** One alone ON the trunk. */
    private static LastPruned one(int kind, int force, int age) {
        LastPruned x = new LastPruned();
        x.branch(kind, 0, force, age);
        return x;
    }

    /** One ON another, and so on, to the eighth. */
    static LastPruned chain(int kind, int force) {
        LastPruned x = new LastPruned();
        for (int b = 0; b < 8; b++) {
            x.branch(kind, b, force, 0);
        }
        return x;
    }

    private static void calls() {
        LastPruned x = one(5, 9, 0);
        for (int i = 0; i < 510; i++) {
            x.years(60);
        }
        LastPruned y = new LastPruned();
        int fed = 0;
        for (int i = 0; i < 102; i++) {
            fed += y.feed(0x3b647562L, 4);
            fed += y.tree();
            fed += y.keep();
            fed += y.again();
            fed += y.winters(30);
        }
        Sentence.ofWhatItIs("An object is used for at most 512 calls after it has been made; what later calls answer is free.")
            .due("the 512th call: CROP", x.years(60), 99999)
            .due("510 calls", fed, 102 * (4 + 1 + 1 + 1))
            .due("the 511th", y.many(0), 1)
            .due("the 512th", y.of(0, 0), 3);
    }

    private static void refusals() {
        LastPruned faulty = Whole.few("sun 3; bud; twig");
        Sentence.ofTerms("Answers below 0, where not told otherwise, are refusals; such a call changes nothing"
                + " (but that THE TAPE is used up by tree());")
            .due("tree() with a FAULT", faulty.tree(), -112)
            .due("uses THE TAPE up", faulty.many(5), 0)
            .same("tree() with a FAULT, but THE TAPE", faulty, Whole.few(""));
        LastPruned eight = Whole.full();
        Sentence.ofTerms("of several the first named: BAD (-1) there is no such thing, or a number is not as told;"
                + " FULL (-2); NONE (-3);")
            .due("BAD", BAD, -1)
            .due("FULL", FULL, -2)
            .due("NONE", NONE, -3)
            .due("feed: FULL", eight.feed(0, 1), FULL)
            .due("feed: BAD before FULL", eight.feed(0, 9), BAD)
            .due("branch: FULL", eight.branch(0, 0, 0, 0), FULL)
            .due("branch: BAD before FULL: kind", eight.branch(6, 0, 0, 0), BAD)
            .due("branch: BAD before FULL: on", eight.branch(0, 9, 0, 0), BAD)
            .due("branch: BAD before FULL: force", eight.branch(0, 0, 10, 0), BAD)
            .due("branch: BAD before FULL: age", eight.branch(0, 0, 0, 100), BAD)
            .due("regret: NONE", eight.regret(0, 20), NONE)
            .due("regret: BAD before NONE", eight.regret(0, 21), BAD)
            .due("freeFor: NONE", eight.freeFor(3, 99), NONE)
            .due("freeFor: BAD before NONE", eight.freeFor(3, 100), BAD)
            .due("forceFor: NONE", eight.forceFor(0, 1, 9999), NONE)
            .due("forceFor: BAD before NONE", eight.forceFor(0, 1, 10000), BAD)
            .due("cutFor: NONE", new LastPruned().cutFor(1), NONE)
            .due("cutFor: BAD before NONE", new LastPruned().cutFor(0), BAD);
    }

    private static void host() {
        LastPruned x = Whole.few();
        x.mind(3, 0, 3);
        Sentence.ofTerms("and what the host refuses: -11 nothing where something is asked, -12 a place outside,"
                + " -13 a thing of another sort or kind, -14 a size below 0, -15 parted by 0.")
            .due("item: BAD before -11", x.item(2, 4, 0), BAD)
            .due("item: -11 before -13 and -12", x.item(2, 0, 9), -11)
            .due("item: -13 before -12", x.item(1, 0, 9), -13)
            .due("item: -12", x.item(1, 1, 9), -12)
            .due("put: BAD before -11", x.put(4, 9, 0), BAD)
            .due("put: -11 before -12", x.put(2, 9, 0), -11)
            .due("put: -12", x.put(1, 9, 0), -12)
            .due("minds: BAD before -11", x.minds(2, 9, 4, 2), BAD)
            .due("minds: -11 before -12", x.minds(2, 9, 0, 1), -11)
            .due("minds: BAD before -13", x.minds(1, 0, 5, 0), BAD)
            .due("minds: -13 before -12", x.minds(1, 9, 0, 1), -13)
            .due("minds: BAD before -12", x.minds(0, 9, 0, 6), BAD)
            .due("minds: -12", x.minds(0, 9, 0, 1), -12)
            .due("sheet: BAD before -14", x.sheet(0, 4, -1), BAD)
            .due("sheet: no such SHEET before -14", x.sheet(4, 0, -1), BAD)
            .due("sheet: -14", x.sheet(0, 0, -1), -14)
            .due("taken: BAD before -11", x.taken(2, 6), BAD)
            .due("taken: -11", x.taken(2, 0), -11)
            .due("taken: BAD before -13", x.taken(1, 9), BAD)
            .due("taken: -13, sort", x.taken(1, 11), -13)
            .due("taken: -13, kind", x.taken(0, 2), -13)
            .due("fits: BAD before -11", x.fits(2, 5, 0), BAD)
            .due("fits: -11 before NONE", x.fits(2, 0, 1), -11)
            .due("act: -15", x.act(3, 2, 0), -15);
    }

    private static void setsAndQuotients() {
        LastPruned x = chain(0, 0);
        LastPruned cut = of("bud cut;bud cut;bud cut;bud cut;bud cut;bud cut;bud cut;bud cut;");
        cut.years(6);
        Sentence.ofTerms("Sets are told by bits.")
            .due("all eight STAND", x.state(2), 255)
            .due("all eight are CUT", cut.state(3), 255)
            .due("all eight are BURNT", cut.state(5), 255)
            .due("seven ON the first", x.stem(0), 254)
            .due("the last ON the seventh", x.stem(6), 128)
            .due("none", x.stem(7), 0);
        LastPruned things = of("branch; branch force 3; branch force 9;");
        things.shelf(1, 0, 1);
        things.shelf(2, 0, 2);
        Sentence.ofTerms("Quotients are cut towards 0.")
            .due("-3 by 2", things.act(1, 2, -3), -1)
            .due("-1 by 2", things.act(1, 2, -1), 0)
            .due("3 by 2", things.act(1, 2, 3), 1)
            .due("-13 by 7", things.act(2, 2, -13), -1)
            .due("-14 by 7", things.act(2, 2, -14), -2);
        LastPruned below = of("branch; branch; branch force 0;");
        below.shelf(0, 0, 2);
        Sentence.ofTerms("Quotients are cut towards 0.")
            .due("3 by -2", below.act(0, 2, 3), -1)
            .due("-3 by -2", below.act(0, 2, -3), 1)
            .due("1 by -2", below.act(0, 2, 1), 0);
    }

    private static void fractions() {
        LastPruned x = new LastPruned();
        Sentence s = Sentence.ofTerms("A part of a fraction: 0 above the line, 1 below it, without a common divisor,"
            + " below above 0 (0 is 0 by 1).");
        // 20 of 100, of one winter
        s.due("a fifth, above", x.odds(1, 1, 0), 1).due("a fifth, below", x.odds(1, 1, 1), 5);
        s.due("hope: 20 of 100, above", x.hope(1, 0), 1).due("hope: 20 of 100, below", x.hope(1, 1), 5);
        s.due("hope: 500 of 100, above", x.hope(25, 0), 5).due("hope: 500 of 100, below", x.hope(25, 1), 1);
        x.set(3, 0);
        s.due("odds: 0, above", x.odds(8, 1, 0), 0).due("odds: 0 is by 1", x.odds(8, 1, 1), 1);
        s.due("hope: 0, above", x.hope(99, 0), 0).due("hope: 0 is by 1", x.hope(99, 1), 1);
        x.set(3, 99);
        s.due("hope: nothing in common, above", x.hope(1, 0), 99).due("below", x.hope(1, 1), 100);
        s.due("hope by 0, above", x.hope(0, 0), 0).due("hope by 0, below", x.hope(0, 1), 1);
        s.refuses("odds: part 2", BAD, y -> y.odds(1, 1, 2)).refuses("odds: part -1", BAD, y -> y.odds(1, 1, -1));
        s.refuses("hope: part 2", BAD, y -> y.hope(1, 2)).refuses("hope: part -1", BAD, y -> y.hope(1, -1));
    }

    private static void laws() {
        String[] words = {"1 LAWS: 0 SHADE (0 to 9; 2 at first),", "1 SUN (0 to 9; 1),", "2 RAIN (0 to 9; 2),",
            "3 FROST (0 to 99 of a hundred; 20)."};
        String[] names = {"shade ", "sun ", "rain ", "frost "};
        int[] first = {2, 1, 2, 20};
        int[] most = {9, 9, 9, 99};
        for (int i = 0; i < 4; i++) {
            int law = i;
            LastPruned x = new LastPruned();
            Sentence.ofTerms(words[law])
                .due("at first", x.lawOf(law), first[law])
                .due("of an empty TEXT", Check.ofText("").lawOf(law), first[law])
                .keepsTo("set to", 0, most[law], (y, v) -> y.set(law, v))
                .due("set to the most: what it was", x.set(law, most[law]), first[law])
                .due("the most", x.lawOf(law), most[law])
                .due("set to 0: what it was", x.set(law, 0), most[law])
                .due("0", x.lawOf(law), 0)
                .due("the most, told", of(names[law] + most[law] + ";").lawOf(law), most[law])
                .due("one more, told", Check.told(x, names[law] + (most[law] + 1) + ";"), -100 - names[law].length())
                .due("0, told", of(names[law] + "0;").lawOf(law), 0);
        }
    }

    /** A single graft of FORCE 9 without RAIN, at a CROP of 99990. */
    static LastPruned richCrop() {
        LastPruned x = new LastPruned();
        for (int b = 0; b < 8; b++) {
            x.branch(5, 0, 9, 0);
        }
        x.set(2, 9);
        for (int i = 0; i < 17; i++) {
            x.years(60);
        }
        // 17 times 20 YEARS of 8 * 18 and 40 of 8 * 9, then 28 of 8 * 9
        x.set(2, 0);
        x.years(28);
        for (int b = 1; b < 8; b++) {
            x.cut(b);
        }
        x.years(6);
        return x;
    }

    private static void crop() {
        LastPruned x = richCrop();
        Sentence s = Sentence.ofTerms("YEAR, CROP (0 at first; CROP held to 99999).")
            .due("YEAR at first", new LastPruned().state(0), 0)
            .due("CROP at first", new LastPruned().state(1), 0)
            .due("CROP before", x.state(1), 17 * 5760 + 28 * 72 + 54);
        x.keep();
        s.due("just 99999", x.years(1), 99999).due("one YEAR more", x.years(1), 99999);
        x.again();
        x.mind(0, 5, 8);
        s.due("99998", x.years(1), 99998).due("held", x.years(1), 99999).due("CROP", x.state(1), 99999);
        x.again();
        s.due("held behind two YEARS", x.years(2), 99999);
        x.again();
        x.set(3, 0);
        s.due("by draws: just 99999", x.year(), 99999).due("by draws: held", x.year(), 99999);
        s.due("YEAR isn't held", x.state(0), 17 * 60 + 28 + 6 + 2);
    }

    private static void branches() {
        LastPruned x = new LastPruned();
        Sentence s = Sentence.ofTerms("BRANCHES, 8 at most, numbered as they come,");
        for (int b = 0; b < 8; b++) {
            s.due("the one that comes", x.branch(b % 6, 0, 0, 0), b);
        }
        s.due("a ninth", x.branch(0, 0, 0, 0), FULL).due("there are eight", x.many(0), 8);
        s.due("the eighth", x.of(7, 0), 1).due("a ninth isn't there", x.of(8, 0), BAD);
        s.due("eight, told", Check.told(x, "bud;bud;bud;bud;bud;bud;bud;bud;"), 8);
        s.due("a ninth, told", Check.told(x, "bud;bud;bud;bud;bud;bud;bud;bud;bud;"), -132);
        LastPruned kinds = of("branch; spur; bough; bud; limb; graft;");
        Sentence under = Sentence.ofTerms("each of a KIND: 0 branch; 1 spur, 2 bough, 5 graft (under branch);"
                + " 3 bud (under spur); 4 limb (under bough);")
            .keepsTo("kind", 0, 5, (y, v) -> y.branch(v, 0, 0, 0))
            .keepsTo("kind of mind", 0, 5, (y, v) -> y.mind(0, v, 0));
        int[] numbers = {0, 1, 2, 3, 4, 5};
        int[] above = {-1, 0, 0, 1, 2, 0};
        for (int b : numbers) {
            kinds.shelf(0, 0, b);
            under.due("number of the KIND", kinds.of(b, 0), b).due("of itself", kinds.taken(0, b), b);
            under.due("of all under branch", kinds.taken(0, 0), b);
            under.due("of that above it", above[b] < 0 ? b : kinds.taken(0, above[b]), b);
            under.due("of the last", kinds.taken(0, 5), b == 5 ? 5 : -13);
        }
        Sentence.ofTerms("with FORCE (0 to 9), AGE (0 to 99), ON one of a lesser number, or ON the trunk;")
            .keepsTo("force", 0, 9, (y, v) -> y.branch(0, 0, v, 0))
            .keepsTo("age", 0, 99, (y, v) -> y.branch(0, 0, 0, v))
            .keepsTo("on", 0, 5, (y, v) -> y.branch(0, v, 0, 0))
            .keepsTo("graft: on", 0, 2, (y, v) -> y.graft(2, v))
            .keepsTo("mind: force", 0, 9, (y, v) -> y.mind(0, 0, v))
            .keepsTo("age becomes", 0, 99, (y, v) -> y.age(0, v))
            .due("force 10, told", Check.told(x, "bud force 10;"), -110)
            .due("force 9, told", Check.told(x, "bud force 9;"), 1)
            .due("age 100, told", Check.told(x, "bud age 100;"), -108)
            .due("age 99, told", Check.told(x, "bud age 99;"), 1)
            .due("ON itself, told", Check.told(x, "bud on 0;"), -107)
            .due("ON a lesser one, told", Check.told(x, "bud; bud on 0;"), 2);
    }

    /** A branch that was CUT as many YEARS ago. */
    private static LastPruned lain(int years) {
        LastPruned x = of("branch force 4; branch force 9;");
        x.cut(0);
        if (years > 0) {
            x.years(years);
        }
        return x;
    }

    private static void lies() {
        LastPruned back = lain(5);
        back.back(0);
        LastPruned stays = lain(9);
        Sentence.ofTerms("it is CUT, or not; LIES: how many YEARS since (0 to 9; 0, if it isn't CUT);")
            .due("CUT now", lain(0).of(0, 4), 1)
            .due("LIES now", lain(0).of(0, 5), 0)
            .due("LIES 1", lain(1).of(0, 5), 1)
            .due("LIES 8", lain(8).of(0, 5), 8)
            .due("LIES 9", stays.of(0, 5), 9)
            .due("LIES behind ten", lain(10).of(0, 5), 9)
            .due("LIES behind sixty", lain(60).of(0, 5), 9)
            .due("not CUT", lain(9).of(1, 4), 0)
            .due("not CUT: LIES", lain(9).of(1, 5), 0)
            .due("had back: CUT", back.of(0, 4), 0)
            .due("had back: LIES", back.of(0, 5), 0)
            .due("had back, a YEAR on", back.years(1) > 0 ? back.of(0, 5) : -1, 0)
            .due("CUT once more", back.cut(0), 1)
            .due("LIES anew", back.of(0, 5), 0);
        LastPruned uncut = of("branch; branch on 0;");
        uncut.cut(0);
        uncut.years(8);
        Sentence.ofTerms("BURNT: CUT, and LIES 6 or more.")
            .due("LIES 5", lain(5).state(5), 0)
            .due("LIES 5: how many", lain(5).many(3), 0)
            .due("LIES 5: had back", lain(5).back(0), 2)
            .due("LIES 6", lain(6).state(5), 1)
            .due("LIES 6: how many", lain(6).many(3), 1)
            .due("LIES 6: not had back", lain(6).back(0), NONE)
            .due("LIES 9", lain(20).state(5), 1)
            .due("ON a BURNT one: not CUT, not BURNT", uncut.state(5), 1);
    }

    private static void stands() {
        LastPruned x = chain(0, 3);
        Sentence.ofTerms("It STANDS, if neither it nor one ON which it is (nor one ON which that is, and so on) is CUT.")
            .due("all", x.state(2), 255)
            .due("the last is CUT", x.cut(7), 7)
            .due("it doesn't STAND", x.of(7, 6), 0)
            .due("that ON which it is STANDS", x.of(6, 6), 1)
            .due("it is had back", x.back(7), 8)
            .due("the first is CUT", x.cut(0), 0)
            .due("the last doesn't STAND", x.of(7, 6), 0)
            .due("but isn't CUT", x.of(7, 4), 0)
            .due("the first is had back", x.back(0), 8)
            .due("the fourth is CUT", x.cut(3), 3)
            .due("those that STAND", x.state(2), 7)
            .due("the last, ON the trunk, STANDS", x.graft(7, 0) == 7 ? x.of(7, 6) : -1, 1);
        LastPruned two = of("branch force 9; branch force 9; branch on 0 force 9; branch on 0 force 9 cut;"
            + " branch on 2 force 9;");
        Sentence.ofTerms("BESIDE one: all others that STAND, ON the same (the trunk likewise).")
            .due("ON the trunk, one other", two.does(0, 1), 1000 + 9 - 3)
            .due("ON the same, the other is CUT", two.does(2, 1), 1000 + 9)
            .due("the other STANDS", two.back(3) == 5 ? two.does(2, 1) : -1, 1000 + 9 - 3)
            .due("none ON the same", two.does(4, 1), 1000 + 9)
            .due("that ON which they are is CUT", two.cut(0) == 1 ? two.does(2, 1) : -1, 1000 + 9)
            .due("ON the trunk the other is CUT", two.does(1, 1), 1000 + 9)
            .due("it is itself CUT", two.does(0, 1), 1000 + 9 - 3);
    }

    private static void hinders() {
        Sentence branch = Sentence.ofTerms("HINDERS: branch: a third of FORCE (cut).");
        Sentence spur = Sentence.ofTerms("spur: as branch, less 1 (so it may be below 0).");
        Sentence bud = Sentence.ofTerms("bud: as spur, in even YEARS; else 0.");
        Sentence bough = Sentence.ofTerms("bough: as branch, and SHADE. limb: as bough, twice that. graft: 0.");
        for (int force = 0; force <= 9; force++) {
            String name = "FORCE " + force;
            branch.due(name, one(0, force, 0).does(0, 0), 1000 + THIRD[force]);
            spur.due(name, one(1, force, 0).does(0, 0), 999 + THIRD[force]);
            LastPruned x = one(3, force, 0);
            bud.due(name + " in YEAR 0", x.does(0, 0), 999 + THIRD[force]);
            x.years(1);
            x.mind(0, 3, force);
            bud.due(name + " in YEAR 1", x.does(0, 0), 1000);
            x.years(1);
            x.mind(0, 3, force);
            bud.due(name + " in YEAR 2", x.does(0, 0), 999 + THIRD[force]);
            bough.due("graft, " + name, one(5, force, 0).does(0, 0), 1000);
            for (int shade = 0; shade <= 9; shade += 9) {
                x.set(0, shade);
                x.mind(0, 2, force);
                bough.due("bough, " + name + ", SHADE " + shade, x.does(0, 0), 1000 + THIRD[force] + shade);
                x.mind(0, 4, force);
                bough.due("limb, " + name + ", SHADE " + shade, x.does(0, 0), 1000 + 2 * (THIRD[force] + shade));
            }
        }
        // a spur that HINDERS -1 gives the one BESIDE it 1 more
        spur.due("below 0, BESIDE a branch", of("branch force 4; spur;").does(0, 1), 1000 + 4 + 1);
    }

    private static void bears() {
        LastPruned eight = of("branch force 9;branch force 9;branch force 9;branch force 9;branch force 9;"
            + "branch force 9;branch force 9;branch force 9;");
        Sentence.ofTerms("BEARS: branch: FORCE, less what all BESIDE it HINDER, together.")
            .due("alone, FORCE 0", one(0, 0, 0).does(0, 1), 1000)
            .due("alone, FORCE 9", one(0, 9, 0).does(0, 1), 1009)
            .due("BESIDE seven", eight.does(7, 1), 1000 + 9 - 7 * 3)
            .due("seven ON it count nothing", chain(0, 9).does(0, 1), 1009);
        LastPruned spur = one(1, 4, 0);
        Sentence.ofTerms("spur: as branch, and SUN.")
            .due("SUN 1", spur.does(0, 1), 1005)
            .due("SUN 0", spur.set(1, 0) == 1 ? spur.does(0, 1) : -1, 1004)
            .due("SUN 9", spur.set(1, 9) == 0 ? spur.does(0, 1) : -1, 1013);
        LastPruned hindered = of("bud force 2 age 2; limb force 9;");
        Sentence.ofTerms("bud: as spur; but 0 below an AGE of 3.")
            .due("AGE 0", one(3, 9, 0).does(0, 1), 1000)
            .due("AGE 2", one(3, 9, 2).does(0, 1), 1000)
            .due("AGE 3", one(3, 9, 3).does(0, 1), 1010)
            .due("AGE 99", one(3, 9, 99).does(0, 1), 1010)
            .due("AGE 2, though it would be below 0", hindered.does(0, 1), 1000)
            .due("AGE 3, below 0", hindered.age(0, 3) == 2 ? hindered.does(0, 1) : -1, 1000 + 2 - 10 + 1);
        LastPruned graft = one(5, 4, 0);
        Sentence rain = Sentence.ofTerms("graft: as branch, and RAIN in YEARS whose rest by 3 is 0.");
        int[] want = {6, 4, 4, 6, 4, 4, 6};
        for (int year = 0; year < want.length; year++) {
            rain.due("YEAR " + year, graft.does(0, 1), 1000 + want[year]);
            graft.years(1);
        }
        graft.years(2);
        rain.due("YEAR 9, RAIN 9", graft.set(2, 9) == 2 ? graft.does(0, 1) : -1, 1013);
        rain.due("YEAR 9, RAIN 0", graft.set(2, 0) == 9 ? graft.does(0, 1) : -1, 1004);
        LastPruned limbs = of("shade 9;branch;limb force 9;limb force 9;limb force 9;limb force 9;limb force 9;"
            + "limb force 9;limb force 9;");
        Sentence.ofTerms("(BEARS may be below 0.)")
            .due("BESIDE one that HINDERS 1", of("branch; branch force 3;").does(0, 1), 999)
            .due("BESIDE one that HINDERS 0", of("branch; branch force 2;").does(0, 1), 1000)
            .due("BESIDE seven limbs", limbs.does(0, 1), 1000 - 7 * 24);
    }

    private static void bearsOfBoughs() {
        LastPruned x = of("bough; branch on 0; branch on 0 cut; branch on 1; branch on 0;");
        Sentence.ofTerms("bough: as branch, less how many ON it STAND.")
            .due("none ON it", one(2, 4, 0).does(0, 1), 1004)
            .due("two ON it STAND, one is CUT, one is ON another", x.does(0, 1), 998)
            .due("three", x.back(2) == 5 ? x.does(0, 1) : -1, 997)
            .due("it is CUT: none ON it STANDS", x.cut(0) == 0 ? x.does(0, 1) : -1, 1000)
            .due("seven", of("bough;bud on 0;bud on 0;bud on 0;bud on 0;bud on 0;bud on 0;bud on 0;").does(0, 1), 993);
        Sentence.ofTerms("limb: as bough, less a tenth of AGE (cut).")
            .due("AGE 0", one(4, 9, 0).does(0, 1), 1009)
            .due("AGE 9", one(4, 9, 9).does(0, 1), 1009)
            .due("AGE 10", one(4, 9, 10).does(0, 1), 1008)
            .due("AGE 89", one(4, 9, 89).does(0, 1), 1001)
            .due("AGE 99", one(4, 9, 99).does(0, 1), 1000)
            .due("AGE 99, FORCE 0", one(4, 0, 99).does(0, 1), 991)
            .due("as bough: two ON it", of("limb force 9 age 10; bud on 0; bud on 0;").does(0, 1), 1006);
    }

    private static void gains() {
        Sentence grow = Sentence.ofTerms("GAINS: branch: 1. spur: as branch, and 1. bud: as spur, and 1.");
        Sentence fall = Sentence.ofTerms("bough: as branch; less 2 from an AGE of 20 on (so it is below 0)."
            + " limb: as bough, twice that. graft: 0.");
        int[] ages = {0, 19, 20, 99};
        for (int age : ages) {
            grow.due("branch at " + age, one(0, 5, age).does(0, 2), 1001);
            grow.due("spur at " + age, one(1, 5, age).does(0, 2), 1002);
            grow.due("bud at " + age, one(3, 5, age).does(0, 2), 1003);
            fall.due("bough at " + age, one(2, 5, age).does(0, 2), age < 20 ? 1001 : 999);
            fall.due("limb at " + age, one(4, 5, age).does(0, 2), age < 20 ? 1002 : 998);
            fall.due("graft at " + age, one(5, 5, age).does(0, 2), 1000);
        }
    }

    private static void aYear() {
        Sentence.ofTerms("A YEAR: (1) CROP is more by what all that STAND BEAR, each 0 at least, by all as the YEAR begins.")
            .due("no BRANCHES", new LastPruned().years(1), 0)
            // the branch BEARS 0 - 10, the limb 9
            .due("one below 0 takes nothing off", of("branch; limb force 9;").years(1), 9)
            .due("one at 1 counts", of("branch force 4; branch force 9;").years(1), 1 + 8)
            .due("one that is CUT bears nothing", of("branch force 5 cut; branch force 2;").years(1), 2)
            .due("nor one ON it", of("branch force 5 cut; branch on 0 force 3;").years(1), 0)
            // each would keep 3 off the other, were it grown before the other BEARS
            .due("as the YEAR begins: FORCE", of("branch force 8; branch force 8;").years(1), 6 + 6)
            .due("as the YEAR begins: AGE", of("bud force 8 age 2;").years(1), 0)
            .due("as the YEAR begins: YEAR", of("graft force 1;").years(1), 1 + 2);
        LastPruned x = new LastPruned();
        Sentence.ofTerms("YEAR is 1 more.")
            .due("YEAR 0", x.state(0), 0)
            .due("one YEAR", x.years(1) == 0 ? x.state(0) : -1, 1)
            .due("sixty more", x.years(60) == 0 ? x.state(0) : -1, 61)
            .due("by draws", x.year() == 0 ? x.state(0) : -1, 62);
    }

    /** What FORCE is behind one YEAR. */
    private static int grown(int kind, int force, int age) {
        LastPruned x = one(kind, force, age);
        x.years(1);
        return x.of(0, 2);
    }

    private static int aged(int age) {
        LastPruned x = one(0, 0, age);
        x.years(1);
        return x.of(0, 3);
    }

    private static void heldInAYear() {
        LastPruned bough = one(2, 5, 18);
        bough.years(2);
        LastPruned cut = of("branch force 3 age 4 cut; branch on 0 force 3 age 4;");
        cut.years(1);
        Sentence.ofTerms("(2) Of each that STANDS: FORCE is what it GAINS more (held to 0 to 9), then AGE 1 more (99 at most).")
            .due("branch of 8", grown(0, 8, 0), 9)
            .due("branch of 9", grown(0, 9, 0), 9)
            .due("spur of 7", grown(1, 7, 0), 9)
            .due("spur of 8", grown(1, 8, 0), 9)
            .due("bud of 5", grown(3, 5, 0), 8)
            .due("bud of 6", grown(3, 6, 0), 9)
            .due("bud of 7", grown(3, 7, 0), 9)
            .due("bough of 1, AGE 20", grown(2, 1, 20), 0)
            .due("bough of 0, AGE 20", grown(2, 0, 20), 0)
            .due("limb of 3, AGE 20", grown(4, 3, 20), 1)
            .due("limb of 2, AGE 20", grown(4, 2, 20), 0)
            .due("limb of 1, AGE 20", grown(4, 1, 20), 0)
            .due("GAINS before AGE: bough at 19", grown(2, 5, 19), 6)
            .due("bough from 18 to 20", bough.of(0, 2), 7)
            .due("and a third YEAR", bough.years(1) > 0 ? bough.of(0, 2) : -1, 6)
            .due("AGE 0", aged(0), 1)
            .due("AGE 98", aged(98), 99)
            .due("AGE 99", aged(99), 99)
            .due("CUT: FORCE", cut.of(0, 2), 3)
            .due("CUT: AGE", cut.of(0, 3), 4)
            .due("ON a CUT one: FORCE", cut.of(1, 2), 3)
            .due("ON a CUT one: AGE", cut.of(1, 3), 4);
        Sentence.ofTerms("(3) Of each that is CUT: LIES is 1 more (9 at most).")
            .due("CUT: LIES", cut.of(0, 5), 1)
            .due("ON a CUT one: LIES", cut.of(1, 5), 0)
            .due("behind eight", cut.years(7) == 0 ? cut.of(0, 5) : -1, 8)
            .due("behind nine", cut.years(1) == 0 ? cut.of(0, 5) : -1, 9)
            .due("behind ten", cut.years(1) == 0 ? cut.of(0, 5) : -1, 9)
            .due("CUT, ON a CUT one, too", cut.cut(1) == 0 && cut.years(1) == 0 ? cut.of(1, 5) : -1, 1);
    }
}
