/** The sentences of Terms, part 2, about THE TAPE and TEXT. */
final class TextEdges {
    private static final int FULL = LastPruned.FULL;

    private TextEdges() {
    }

    static void all() {
        tape();
        text();
        branches();
        allByIt();
        tokens();
        blanks();
        faults();
        numbers();
        ends();
    }

    private static int told(String text) {
        return Check.told(new LastPruned(), text);
    }

    private static void tape() {
        LastPruned x = new LastPruned();
        Sentence s = Sentence.ofTerms("THE TAPE takes bytes, 200 at most; tree() uses it up.")
            .due("192", Check.feedAll(x, " ".repeat(192)), 192)
            .due("192 and 7", x.feed(0x2020203b647562L, 7), 199)
            .due("199 and 2", x.feed(0x2020, 2), FULL)
            .due("none of these came", x.many(5), 199)
            .due("199 and 1", x.feed(0x20, 1), 200)
            .due("200 and 1", x.feed(0x20, 1), FULL)
            .due("200 and 8", x.feed(0x20, 8), FULL)
            .due("all 200 are read", x.tree(), 1)
            .due("used up", x.many(5), 0)
            .due("once more: nothing is told", x.tree(), 0);
        s.due("192 and 8", Check.feedAll(x, " ".repeat(200)), 200).due("used up", x.tree() + x.many(5), 0);
        s.due("193 and 8", Check.feedAll(x, " ".repeat(193)) == 193 ? x.feed(0, 8) : -1, FULL);
        s.due("a FAULT behind 193 blanks", x.feed('x', 1) == 194 ? x.tree() : -1, -293);
        s.due("used up with a FAULT, too", x.many(5), 0);
        s.due("bytes of 128 to 255", x.feed(-1L, 8) == 8 ? x.tree() : -1, -100);
        s.due("a byte is eight bits", x.feed(0x3b647562L | 0x62L << 32, 5) == 5 ? x.tree() : -1, -104);
    }

    private static void text() {
        Sentence.ofTerms("TEXT: { KIND [ on N ] [ force N ] [ age N ] [ cut ] ; | shade N ; | sun N ; | rain N ; | frost N ; }")
            .due("nothing", told(""), 0)
            .due("KIND alone", told("bud;"), 1)
            .due("all that may stand", told("bud;bud on 0 force 1 age 1 cut;"), 2)
            .due("no on", told("bud;bud force 1 age 1 cut;"), 2)
            .due("no force", told("bud;bud on 0 age 1 cut;"), 2)
            .due("no age", told("bud;bud on 0 force 1 cut;"), 2)
            .due("no cut", told("bud;bud on 0 force 1 age 1;"), 2)
            .due("force before on", told("bud;bud force 1 on 0;"), -116)
            .due("age before force", told("bud age 1 force 1;"), -110)
            .due("cut before age", told("bud cut age 1;"), -108)
            .due("on twice", told("bud;bud on 0 on 0;"), -113)
            .due("force twice", told("bud force 1 force 1;"), -112)
            .due("age twice", told("bud age 1 age 1;"), -110)
            .due("cut twice", told("bud cut cut;"), -108)
            .due("no close", told("bud bud;"), -104)
            .due("a close alone", told(";"), -100)
            .due("two closes", told("bud;;"), -104)
            .due("LAWS", told("shade 1;sun 1;rain 1;frost 1;"), 0)
            .due("a LAW without its number", told("sun;"), -103)
            .due("a LAW that is cut", told("sun 1 cut;"), -106)
            .due("a number alone", told("1;"), -100)
            .due("on alone", told("on 0;"), -100)
            .due("LAWS between BRANCHES", told("bud;sun 1;bud;sun 2;"), 2);
        LastPruned x = Check.ofText("shade 9;sun 8;rain 7;frost 99;sun 6;");
        Sentence.ofTerms("The others: the LAW.")
            .due("shade", x.lawOf(0), 9)
            .due("sun, told twice: the later", x.lawOf(1), 6)
            .due("rain", x.lawOf(2), 7)
            .due("frost", x.lawOf(3), 99);
    }

    private static void branches() {
        LastPruned x = Check.ofText("branch;spur on 0;bough force 9;bud age 99;limb cut;graft on 4 force 1 age 2 cut;");
        int[][] want = {{0, 0, 0, 0, 0, 0}, {1, 1, 0, 0, 0, 0}, {2, 0, 9, 0, 0, 0}, {3, 0, 0, 99, 0, 0},
            {4, 0, 0, 0, 1, 0}, {5, 5, 1, 2, 1, 0}};
        String[] names = {"KIND", "ON", "FORCE", "AGE", "CUT", "LIES"};
        Sentence s = Sentence.ofTerms("KIND (branch | spur | bough | bud | limb | graft): one more; ON a BRANCH there by then"
            + " (ON the trunk without); FORCE, AGE (0 without); CUT, LIES 0, or not.");
        for (int b = 0; b < 6; b++) {
            for (int what = 0; what < 6; what++) {
                s.due(names[what] + " of " + b, x.of(b, what), want[b][what]);
            }
        }
        s.due("ON one there by then", told("bud;bud on 0;"), 2).due("ON itself", told("bud;bud on 1;"), -111);
        s.due("ON one that comes later", told("bud on 1;bud;"), -107).due("the first ON itself", told("bud on 0;"), -107);
        s.due("ON the seventh", told("bud;bud;bud;bud;bud;bud;bud;bud on 6;"), 8);
        s.due("ON the eighth", told("bud;bud;bud;bud;bud;bud;bud;bud on 7;"), -135);
        s.due("ON one that is CUT", told("bud cut;bud on 0;"), 2);
    }

    private static void allByIt() {
        LastPruned x = Check.ofText("shade 9;sun 9;rain 9;frost 9;bud force 9 age 9 cut;bud on 0 force 8;bud force 9;");
        x.years(7);
        // what was tried of the old tree must not come into the new one
        x.harvest(60);
        x.seed(99);
        Sentence.ofTerms("It is all by it alone (what it doesn't tell is as at first); z stays.")
            .due("one", Check.told(x, "spur;"), 1)
            .due("no second", x.of(1, 0), -1)
            .due("KIND", x.of(0, 0), 1)
            .due("FORCE", x.of(0, 2), 0)
            .due("AGE", x.of(0, 3), 0)
            .due("CUT", x.of(0, 4), 0)
            .due("LIES", x.of(0, 5), 0)
            .due("YEAR", x.state(0), 0)
            .due("CROP", x.state(1), 0)
            .due("SHADE", x.lawOf(0), 2)
            .due("SUN", x.lawOf(1), 1)
            .due("RAIN", x.lawOf(2), 2)
            .due("FROST", x.lawOf(3), 20)
            .due("z", x.seed(0), 99)
            .due("cut once more: LIES", Check.told(x, "bud cut;") == 1 ? x.of(0, 5) : -1, 0)
            .due("nothing told", Check.told(x, ""), 0)
            .due("no BRANCHES", x.many(0), 0)
            .due("no FORCE", x.state(4), 0)
            .due("none CUT", x.state(3), 0)
            .due("one that comes then", x.branch(0, 0, 0, 0), 0)
            .due("LIES 0", x.of(0, 5), 0)
            .due("not CUT", x.of(0, 4), 0);
    }

    private static void tokens() {
        Sentence.ofTerms("NAMES are rows of letters a to z, NUMBERS rows of digits (1 to 3), both as long as they go;")
            .due("a great letter", told("Bud;"), -100)
            .due("the byte before a", told("bud`;"), -103)
            .due("the byte behind z", told("bud{;"), -103)
            .due("the byte before 0", told("sun 4/;"), -105)
            .due("the byte behind 9", told("sun 4:;"), -105)
            .due("a NAME goes on with a", told("buda;"), -100)
            .due("a NAME goes on with z", told("budz;"), -100)
            .due("a NAME as a part of another", told("bu;"), -100)
            .due("two NAMES as one", told("budcut;"), -100)
            .due("one digit", told("bud age 9;"), 1)
            .due("two digits", told("bud age 90;"), 1)
            .due("three digits", told("bud age 099;"), 1)
            .due("four digits", told("bud age 0099;"), -108)
            .due("four digits of 0", told("bud age 0000;"), -108)
            .due("eleven digits", told("bud age 10000000000;"), -108)
            .due("a NUMBER goes on with 0", told("sun 90;"), -104)
            .due("a NUMBER goes on with 9", told("sun 19;"), -104)
            .due("a NAME behind a NUMBER", told("bud age 9cut;"), 1)
            .due("a NUMBER behind a NAME", told("bud age9;"), 1);
    }

    private static void blanks() {
        Sentence.ofTerms("blanks (32) part them, and stand elsewhere as one likes.")
            .due("blanks alone", told("   "), 0)
            .due("none where none is needed", told("bud;bud on 0 cut;sun 3;"), 2)
            .due("many", told("  bud   force  9  age   9   cut  ;  sun  3  ;  "), 1)
            .due("one in a NAME", told("bu d;"), -100)
            .due("one in a NUMBER", told("sun 0 9;"), -106)
            .due("byte 31", told("bud\u001f;"), -103)
            .due("byte 33", told("bud!;"), -103)
            .due("byte 9", told("bud\t;"), -103)
            .due("byte 10", told("bud;\n"), -104)
            .due("byte 0", told("bud;\0"), -104)
            .due("byte 160", told("bud\u00a0;"), -103)
            .due("196 of them", told(" ".repeat(196) + "bud;"), 1);
    }

    private static void faults() {
        String eight = "bud;bud;bud;bud;bud;bud;bud;bud;";
        Sentence.ofTerms("FAULT: the place (from 0) of the first byte of the first NAME, NUMBER or other byte that can't stand"
                + " there or is not as told (a NUMBER out of range, of more digits; the NAME of a ninth one),")
            .due("at 0", told("twig;"), -100)
            .due("at 1", told(" twig;"), -101)
            .due("behind one", told("bud;twig;"), -104)
            .due("a NAME that can't stand there", told("bud shade;"), -104)
            .due("a NUMBER that can't stand there", told("bud 5;"), -104)
            .due("another byte that can't stand there", told("bud,"), -103)
            .due("a NAME where a NUMBER must be", told("bud force cut;"), -110)
            .due("a close where a NUMBER must be", told("bud force;"), -109)
            .due("a sign before a NUMBER", told("bud force -1;"), -110)
            .due("the first of two", told("sun 10; twig;"), -104)
            .due("a ninth", told(eight + "bud;"), -132)
            .due("a ninth, with a blank before it", told(eight + " limb;"), -133)
            .due("a ninth, more faulty behind its NAME", told(eight + "bud force 77"), -132)
            .due("eight and a LAW", told(eight + "sun 4;"), 8)
            .due("eight and no NAME", told(eight + "twig;"), -132);
    }

    private static void numbers() {
        Sentence.ofTerms("(a NUMBER out of range, of more digits; the NAME of a ninth one),")
            .due("force 9", told("bud force 9;"), 1)
            .due("force 10", told("bud force 10;"), -110)
            .due("force 0009", told("bud force 0009;"), -110)
            .due("age 99", told("bud age 99;"), 1)
            .due("age 100", told("bud age 100;"), -108)
            .due("shade 9", told("shade 9;"), 0)
            .due("shade 10", told("shade 10;"), -106)
            .due("sun 9", told("sun 9;"), 0)
            .due("sun 10", told("sun 10;"), -104)
            .due("rain 9", told("rain 9;"), 0)
            .due("rain 10", told("rain 10;"), -105)
            .due("frost 99", told("frost 99;"), 0)
            .due("frost 100", told("frost 100;"), -106)
            .due("frost 999", told("frost 999;"), -106)
            .due("frost 0099", told("frost 0099;"), -106)
            .due("on 0", told("bud;bud on 0;"), 2)
            .due("on 1", told("bud;bud on 1;"), -111)
            .due("on 0000", told("bud;bud on 0000;"), -111);
    }

    private static void ends() {
        Sentence.ofTerms("or the end (how many bytes there are), if more must come.")
            .due("behind KIND", told("bud"), -103)
            .due("behind KIND and blanks", told("bud  "), -105)
            .due("behind on", told("bud;bud on"), -110)
            .due("behind on and its NUMBER", told("bud;bud on 0"), -112)
            .due("behind force", told("bud force "), -110)
            .due("behind force and its NUMBER", told("bud force 9"), -111)
            .due("behind age", told("bud age"), -107)
            .due("behind age and its NUMBER", told("bud age 9 "), -110)
            .due("behind cut", told("bud cut"), -107)
            .due("behind a LAW", told("frost"), -105)
            .due("behind a LAW and its NUMBER", told("frost 9"), -107)
            .due("behind a close nothing must come", told("bud; "), 1)
            .due("at 200", told(" ".repeat(197) + "bud"), -300)
            .due("at 199", told(" ".repeat(196) + "bud"), -299)
            .due("a NUMBER out of range before it", told("sun 10"), -104)
            .due("a NAME that goes no further", told("bud forc"), -104);
    }
}
