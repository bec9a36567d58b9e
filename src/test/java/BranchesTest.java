/** Promises 1, 4 to 14, 19 and 44: the new object, LAWS, BRANCHES, cutting and having back. */
public final class BranchesTest {
    public static void main(String[] args) {
        newObject();
        laws();
        branchAndOf();
        refusedBranches();
        hinders();
        bears();
        gains();
        stems();
        mindAndAge();
        grafts();
        cutAndBack();
        stateAndMany();
        Check.end();
    }

    private static void newObject() {
        LastPruned x = new LastPruned();
        for (int what = 0; what <= 6; what++) {
            Check.due("1: new: many(" + what + ")", x.many(what), 0);
        }
        for (int what = 0; what <= 5; what++) {
            Check.due("1: new: state(" + what + ")", x.state(what), 0);
        }
        Check.due("1: new: again()", x.again(), LastPruned.NONE);
        Check.due("1: new: seed(5)", x.seed(5), 1);
        Check.due("1: new: item(0, 0, 0)", x.item(0, 0, 0), -11);
        Check.due("1: new: taken(3, 0)", x.taken(3, 0), -11);
        Check.due("1: new: row(0, 0)", x.row(0, 0), -9);
        Check.due("1: new: trace(0)", x.trace(0), LastPruned.NONE);
        Check.due("1: new: of(0, 0)", x.of(0, 0), LastPruned.BAD);
        new LastPruned().branch(0, 0, 1, 1);
        Check.due("1: objects share nothing", x.many(0), 0);
    }

    private static void laws() {
        LastPruned x = new LastPruned();
        int[] first = {2, 1, 2, 20};
        int[] most = {9, 9, 9, 99};
        for (int law = 0; law < 4; law++) {
            Check.due("5: lawOf(" + law + ") at first", x.lawOf(law), first[law]);
            Check.due("4: set to most", x.set(law, most[law]), first[law]);
            Check.due("4: set above most", x.set(law, most[law] + 1), LastPruned.BAD);
            Check.due("4: set below 0", x.set(law, -1), LastPruned.BAD);
            Check.due("5: lawOf behind refusals", x.lawOf(law), most[law]);
            Check.due("4: set to 0", x.set(law, 0), most[law]);
            Check.due("5: lawOf 0", x.lawOf(law), 0);
        }
        for (int law : new int[] {-1, 4, Integer.MIN_VALUE, Integer.MAX_VALUE}) {
            Check.due("4: set(" + law + ", 0)", x.set(law, 0), LastPruned.BAD);
            Check.due("5: lawOf(" + law + ")", x.lawOf(law), LastPruned.BAD);
        }
    }

    private static void branchAndOf() {
        LastPruned x = new LastPruned();
        Check.due("6: the first", x.branch(2, 0, 9, 99), 0);
        Check.due("6: ON the first", x.branch(3, 1, 0, 0), 1);
        Check.due("6: ON the second", x.branch(5, 2, 4, 7), 2);
        int[][] want = {{2, 0, 9, 99, 0, 0, 1, 0}, {3, 1, 0, 0, 0, 0, 1, 1}, {5, 2, 4, 7, 0, 0, 1, 2}};
        for (int b = 0; b < 3; b++) {
            for (int what = 0; what < 8; what++) {
                Check.due("7: of(" + b + ", " + what + ")", x.of(b, what), want[b][what]);
            }
        }
        x.cut(1);
        x.years(2);
        Check.due("7: CUT", x.of(1, 4), 1);
        Check.due("7: LIES", x.of(1, 5), 2);
        Check.due("7: does not STAND", x.of(1, 6), 0);
        Check.due("7: ON a CUT one: not CUT", x.of(2, 4), 0);
        Check.due("7: ON a CUT one: LIES", x.of(2, 5), 0);
        Check.due("7: ON a CUT one: does not STAND", x.of(2, 6), 0);
        for (int b : new int[] {-1, 3, 8, Integer.MAX_VALUE, Integer.MIN_VALUE}) {
            Check.due("7: of(" + b + ", 0)", x.of(b, 0), LastPruned.BAD);
        }
        Check.due("7: of(0, 8)", x.of(0, 8), LastPruned.BAD);
        Check.due("7: of(0, -1)", x.of(0, -1), LastPruned.BAD);
    }

    private static void refusedBranches() {
        LastPruned x = new LastPruned();
        Check.due("6: ON one that is not there", x.branch(0, 1, 0, 0), LastPruned.BAD);
        Check.due("6: on -1", x.branch(0, -1, 0, 0), LastPruned.BAD);
        Check.due("6: kind -1", x.branch(-1, 0, 0, 0), LastPruned.BAD);
        Check.due("6: kind 6", x.branch(6, 0, 0, 0), LastPruned.BAD);
        Check.due("6: force -1", x.branch(0, 0, -1, 0), LastPruned.BAD);
        Check.due("6: force 10", x.branch(0, 0, 10, 0), LastPruned.BAD);
        Check.due("6: age -1", x.branch(0, 0, 0, -1), LastPruned.BAD);
        Check.due("6: age 100", x.branch(0, 0, 0, 100), LastPruned.BAD);
        Check.due("6: none came", x.many(0), 0);
        for (int b = 0; b < 8; b++) {
            Check.due("6: ON the one before", x.branch(b % 6, b, 0, 0), b);
        }
        Check.due("7: DEEP of the last", x.of(7, 7), 7);
        Check.due("6: a ninth", x.branch(0, 0, 0, 0), LastPruned.FULL);
        Check.due("6: a ninth that is BAD", x.branch(0, 9, 0, 0), LastPruned.BAD);
        Check.due("6: eight", x.many(0), 8);
        for (int b = 0; b < 8; b++) {
            x.mind(b, 0, 9);
        }
        Check.due("19: FORCE of eight", x.state(4), 72);
        Check.due("19: all eight STAND", x.state(2), 255);
    }

    /** HINDERS by kind, force, shade and year, told by a row of what is due for forces 0, 2, 3, 9. */
    private static void hinders() {
        int[] forces = {0, 2, 3, 9};
        int[][] even = {{0, 0, 1, 3}, {-1, -1, 0, 2}, {4, 4, 5, 7}, {-1, -1, 0, 2}, {8, 8, 10, 14}, {0, 0, 0, 0}};
        int[][] odd = {even[0], even[1], even[2], {0, 0, 0, 0}, even[4], even[5]};
        for (int kind = 0; kind < 6; kind++) {
            for (int i = 0; i < 4; i++) {
                LastPruned x = new LastPruned();
                x.branch(0, 0, 0, 0);
                x.set(0, 4);
                x.mind(0, kind, forces[i]);
                Check.due("8: kind " + kind + " HINDERS, YEAR 0", x.does(0, 0), 1000 + even[kind][i]);
                x.years(1);
                x.mind(0, kind, forces[i]);
                Check.due("8: kind " + kind + " HINDERS, YEAR 1", x.does(0, 0), 1000 + odd[kind][i]);
            }
        }
    }

    private static void bears() {
        LastPruned x = Check.ofText("sun 5; rain 7; shade 3; branch force 6; branch force 9; bough on 0 force 5;"
            + "spur on 0 force 1; bud on 2 force 4 age 2; limb on 2 force 8 age 39; graft on 2 force 2;");
        // ON the trunk: 0 hinders 2, 1 hinders 3
        Check.due("8: 0 BEARS", x.does(0, 1), 1000 + 6 - 3);
        Check.due("8: 1 BEARS", x.does(1, 1), 1000 + 9 - 2);
        // ON 0: the bough hinders 1 + 3, the spur -1; ON the bough three STAND
        Check.due("8: bough BEARS", x.does(2, 1), 1000 + 5 + 1 - 3);
        Check.due("8: spur BEARS", x.does(3, 1), 1000 + 1 - 4 + 5);
        // ON 2: the bud hinders 1 - 1, the limb 2 * (2 + 3), the graft 0
        Check.due("8: bud below 3 BEARS", x.does(4, 1), 1000);
        Check.due("8: limb BEARS", x.does(5, 1), 1000 + 8 - 3);
        Check.due("8: graft BEARS in YEAR 0", x.does(6, 1), 1000 + 2 - 10 + 7);
        x.age(4, 3);
        Check.due("8: bud from 3 on BEARS", x.does(4, 1), 1000 + 4 - 10 + 5);
        x.cut(5);
        Check.due("8: CUT ones don't hinder", x.does(4, 1), 1000 + 4 + 5);
        Check.due("8: CUT ones don't load", x.does(2, 1), 1000 + 5 + 1 - 2);
        Check.due("8: one that is CUT BEARS as if", x.does(5, 1), 1000 + 8 - 3);
        x.cut(2);
        Check.due("8: those that don't STAND don't hinder", x.does(5, 1), 1000 + 8 - 3);
        Check.due("8: nor load", x.does(2, 1), 1000 + 5 + 1);
        graftBearsByYears();
        LastPruned loaded = Check.ofText("limb force 9 age 20; branch on 0; branch on 0 cut; branch on 1; branch on 0;");
        Check.due("8: limb with two ON it", loaded.does(0, 1), 1000 + 9 - 2 - 2);
        Check.due("8: does(7, 0)", x.does(7, 0), LastPruned.BAD);
        Check.due("8: does(-1, 0)", x.does(-1, 0), LastPruned.BAD);
        Check.due("8: does(0, 3)", x.does(0, 3), LastPruned.BAD);
        Check.due("8: does(0, -1)", x.does(0, -1), LastPruned.BAD);
    }

    private static void graftBearsByYears() {
        LastPruned x = Check.ofText("graft force 4;");
        int[] want = {6, 4, 4, 6, 4, 4, 6};
        for (int year = 0; year < want.length; year++) {
            Check.due("8: graft BEARS in YEAR " + year, x.does(0, 1), 1000 + want[year]);
            x.years(1);
        }
    }

    private static void gains() {
        int[] young = {1, 2, 1, 3, 2, 0};
        int[] old = {1, 2, -1, 3, -2, 0};
        for (int kind = 0; kind < 6; kind++) {
            LastPruned x = new LastPruned();
            x.branch(kind, 0, 5, 19);
            Check.due("8: kind " + kind + " GAINS at 19", x.does(0, 2), 1000 + young[kind]);
            x.age(0, 20);
            Check.due("8: kind " + kind + " GAINS at 20", x.does(0, 2), 1000 + old[kind]);
            x.age(0, 99);
            Check.due("8: kind " + kind + " GAINS at 99", x.does(0, 2), 1000 + old[kind]);
        }
    }

    private static void stems() {
        LastPruned x = Check.ofText("branch; branch on 0; branch; branch on 1; branch on 2; branch on 3 cut; branch on 5; branch;");
        int[] want = {1 << 1 | 1 << 3 | 1 << 5 | 1 << 6, 1 << 3 | 1 << 5 | 1 << 6, 1 << 4, 1 << 5 | 1 << 6, 0, 1 << 6, 0, 0};
        int[] deep = {0, 1, 0, 2, 1, 3, 4, 0};
        for (int b = 0; b < 8; b++) {
            Check.due("9: stem(" + b + ")", x.stem(b), want[b]);
            Check.due("7: DEEP of " + b, x.of(b, 7), deep[b]);
        }
        Check.due("9: stem(8)", x.stem(8), LastPruned.BAD);
        Check.due("9: stem(-1)", x.stem(-1), LastPruned.BAD);
        Check.due("9: none", new LastPruned().stem(0), LastPruned.BAD);
    }

    private static void mindAndAge() {
        LastPruned x = Check.ofText("bough force 3 age 4;");
        Check.due("10: mind", x.mind(0, 5, 9), 2);
        Check.due("10: KIND", x.of(0, 0), 5);
        Check.due("10: FORCE", x.of(0, 2), 9);
        Check.due("10: AGE stays", x.of(0, 3), 4);
        Check.due("10: the same KIND", x.mind(0, 5, 0), 5);
        Check.due("10: no such one", x.mind(1, 0, 0), LastPruned.BAD);
        Check.due("10: one -1", x.mind(-1, 0, 0), LastPruned.BAD);
        Check.due("10: kind 6", x.mind(0, 6, 0), LastPruned.BAD);
        Check.due("10: kind -1", x.mind(0, -1, 0), LastPruned.BAD);
        Check.due("10: force 10", x.mind(0, 0, 10), LastPruned.BAD);
        Check.due("10: force -1", x.mind(0, 0, -1), LastPruned.BAD);
        Check.due("10: refusals change nothing", x.of(0, 0) * 10 + x.of(0, 2), 50);
        Check.due("11: age", x.age(0, 99), 4);
        Check.due("11: AGE", x.of(0, 3), 99);
        Check.due("11: age 100", x.age(0, 100), LastPruned.BAD);
        Check.due("11: age -1", x.age(0, -1), LastPruned.BAD);
        Check.due("11: no such one", x.age(1, 0), LastPruned.BAD);
        Check.due("11: age 0", x.age(0, 0), 99);
    }

    private static void grafts() {
        LastPruned x = Check.ofText("branch; branch; branch on 1;");
        Check.due("12: ON itself", x.graft(2, 3), LastPruned.BAD);
        Check.due("12: ON a greater one", x.graft(1, 3), LastPruned.BAD);
        Check.due("12: ON -1", x.graft(2, -1), LastPruned.BAD);
        Check.due("12: no such one", x.graft(3, 0), LastPruned.BAD);
        Check.due("12: one -1", x.graft(-1, 0), LastPruned.BAD);
        Check.due("12: refusals change nothing", x.of(2, 1), 2);
        Check.due("12: ON 0", x.graft(2, 1), 2);
        Check.due("12: ON which", x.of(2, 1), 1);
        Check.due("12: ON the trunk", x.graft(2, 0), 1);
        Check.due("12: the first ON the trunk", x.graft(0, 0), 0);
        Check.due("12: the first ON itself", x.graft(0, 1), LastPruned.BAD);
        x.graft(2, 2);
        x.cut(0);
        Check.due("12: STANDS ON 1", x.of(2, 6), 1);
        x.graft(2, 1);
        Check.due("12: ON a CUT one", x.of(2, 6), 0);
    }

    private static void cutAndBack() {
        LastPruned x = Check.ofText("branch; branch on 0; branch on 1; branch;");
        Check.due("14: not CUT", x.back(1), LastPruned.NONE);
        Check.due("13: cut(1)", x.cut(1), 2);
        Check.due("13: again", x.cut(1), LastPruned.NONE);
        Check.due("13: one that doesn't STAND", x.cut(2), 2);
        Check.due("14: ON one that is CUT", x.back(2), 2);
        Check.due("14: not CUT, though it doesn't STAND", x.back(2), LastPruned.NONE);
        x.years(5);
        Check.due("7: LIES 5", x.of(1, 5), 5);
        Check.due("14: LIES 5", x.back(1), 4);
        Check.due("14: LIES 0 then", x.of(1, 5), 0);
        Check.due("13: once more", x.cut(1), 2);
        Check.due("13: LIES 0", x.of(1, 5), 0);
        x.years(5);
        Check.due("19: not BURNT at 5", x.state(5) + x.many(3), 0);
        x.years(1);
        Check.due("19: BURNT at 6", x.state(5), 1 << 1);
        Check.due("44: BURNT at 6", x.many(3), 1);
        Check.due("14: BURNT", x.back(1), LastPruned.NONE);
        Check.due("13: BURNT", x.cut(1), LastPruned.NONE);
        x.years(9);
        Check.due("7: LIES is held", x.of(1, 5), 9);
        for (int b : new int[] {-1, 4, 8, Integer.MIN_VALUE}) {
            Check.due("13: cut(" + b + ")", x.cut(b), LastPruned.BAD);
            Check.due("14: back(" + b + ")", x.back(b), LastPruned.BAD);
        }
    }

    private static void stateAndMany() {
        LastPruned x = Check.ofText("branch force 9; branch on 0 force 8; branch on 1 force 7; branch force 6;");
        x.cut(1);
        x.years(6);
        x.cut(3);
        x.mind(0, 0, 5);
        x.years(2);
        // 0 and 3 bore 7 + 3, 7 + 4, 7 + 5, then 6 + 6; 0 alone, minded, 5 and 6
        int crop = 10 + 11 + 12 + 3 * 12 + 5 + 6;
        int[] state = {8, crop, 1, 1 << 1 | 1 << 3, 7 + 8 + 7 + 9, 1 << 1};
        for (int what = 0; what < 6; what++) {
            Check.due("19: state(" + what + ")", x.state(what), state[what]);
        }
        LastPruned first = Check.ofText("branch cut; branch;");
        first.years(6);
        Check.due("19: the first is BURNT", first.state(5), 1);
        Check.told(first, "branch force 5;");
        Check.due("19: FORCE of those there are", first.state(4), 5);
        Check.due("19: state(6)", x.state(6), LastPruned.BAD);
        Check.due("19: state(-1)", x.state(-1), LastPruned.BAD);
        x.prove(0, 3);
        x.feed(0, 5);
        x.shelf(0, 0, 0);
        x.act(0, 3, 1);
        int[] many = {4, 1, 2, 1, 3, 5, 3};
        for (int what = 0; what < 7; what++) {
            Check.due("44: many(" + what + ")", x.many(what), many[what]);
        }
        Check.due("44: many(7)", x.many(7), LastPruned.BAD);
        Check.due("44: many(-1)", x.many(-1), LastPruned.BAD);
    }
}
