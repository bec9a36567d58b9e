import java.math.BigInteger;
import java.util.ArrayList;
import java.util.List;

/**
 * A second writing of the document, as near to its words as can be and with no regard to
 * room or speed: kinds are classes, a refusal inside an act is a Java exception, everything
 * that is tried is tried on a deep copy. RandomRunsTest compares the program with it.
 */
final class Oracle {
    // ---------------------------------------------------------------- the tree

    static class Branch {
        Garden g;
        Branch on;
        int force, age, lies;
        boolean cut;

        int number() { return g.all.indexOf(this); }
        int kind() { return 0; }
        boolean stands() { return !cut && (on == null || on.stands()); }
        boolean burnt() { return cut && lies >= 6; }
        List<Branch> beside() {
            List<Branch> list = new ArrayList<>();
            for (Branch b : g.all) if (b != this && b.stands() && b.on == on) list.add(b);
            return list;
        }
        int standOn() {
            int n = 0;
            for (Branch b : g.all) if (b.on == this && b.stands()) n++;
            return n;
        }
        int hinders() { return force / 3; }
        int bears() {
            int v = force;
            for (Branch b : beside()) v -= b.hinders();
            return v;
        }
        int gains() { return 1; }

        // acts
        int n() { return number(); }
        int a() { return force; }
        void began(int body) { if (g.trace.size() < 30) g.trace.add(body); }
        int buds(int x) { began(10); return x * 3 + n(); }
        int leans(int x) { began(11); return buds(x) - a(); }
        int parts(int x) { began(12); return x / (a() - n()); }
        int falls(int x) { began(13); return leans(x) ^ 17; }
    }

    static class Spur extends Branch {
        @Override int kind() { return 1; }
        @Override int hinders() { return super.hinders() - 1; }
        @Override int bears() { return super.bears() + g.laws[1]; }
        @Override int gains() { return super.gains() + 1; }
        @Override int leans(int x) { began(20); return super.leans(x) * 2; }
    }

    static class Bough extends Branch {
        @Override int kind() { return 2; }
        @Override int hinders() { return super.hinders() + g.laws[0]; }
        @Override int bears() { return super.bears() - standOn(); }
        @Override int gains() { return age >= 20 ? super.gains() - 2 : super.gains(); }
        @Override int buds(int x) { began(30); return super.buds(x) - 1; }
        @Override int falls(int x) { began(31); return super.falls(x) + parts(n()); }
    }

    static final class Bud extends Spur {
        @Override int kind() { return 3; }
        @Override int hinders() { return g.year % 2 == 0 ? super.hinders() : 0; }
        @Override int bears() { return age < 3 ? 0 : super.bears(); }
        @Override int gains() { return super.gains() + 1; }
        @Override int parts(int x) { began(50); return super.parts(x - a()) + 9; }
        @Override int buds(int x) { began(51); return super.buds(x) + n(); }
    }

    static final class Limb extends Bough {
        @Override int kind() { return 4; }
        @Override int hinders() { return super.hinders() * 2; }
        @Override int bears() { return super.bears() - age / 10; }
        @Override int gains() { return super.gains() * 2; }
        @Override int buds(int x) { began(40); return 0 - super.buds(x); }
        @Override int leans(int x) { began(41); return super.leans(x) ^ buds(a()); }
    }

    static final class Graft extends Branch {
        @Override int kind() { return 5; }
        @Override int hinders() { return 0; }
        @Override int bears() { return super.bears() + (g.year % 3 == 0 ? g.laws[2] : 0); }
        @Override int gains() { return 0; }
        @Override int falls(int x) { began(60); return 70 - super.falls(x); }
        @Override int parts(int x) { began(61); return super.parts(x) - buds(n()); }
    }

    static Branch make(int kind) {
        return switch (kind) {
            case 1 -> new Spur();
            case 2 -> new Bough();
            case 3 -> new Bud();
            case 4 -> new Limb();
            case 5 -> new Graft();
            default -> new Branch();
        };
    }

    static boolean isA(Branch b, int as) {
        return switch (as) {
            case 0 -> true;
            case 1 -> b instanceof Spur;
            case 2 -> b instanceof Bough;
            case 3 -> b instanceof Bud;
            case 4 -> b instanceof Limb;
            default -> b instanceof Graft;
        };
    }

    static final class Garden {
        List<Branch> all = new ArrayList<>();
        int[] laws = {2, 1, 2, 20};
        int year, crop, z = 1;
        List<Integer> trace = new ArrayList<>();

        Branch add(int kind, Branch on, int force, int age) {
            Branch b = make(kind);
            b.g = this;
            b.on = on;
            b.force = force;
            b.age = age;
            all.add(b);
            return b;
        }

        Garden copy() {
            Garden c = new Garden();
            c.laws = laws.clone();
            c.year = year;
            c.crop = crop;
            c.z = z;
            for (Branch b : all) {
                Branch d = c.add(b.kind(), b.on == null ? null : c.all.get(b.on.number()), b.force, b.age);
                d.cut = b.cut;
                d.lies = b.lies;
            }
            return c;
        }

        void become(int i, int kind, int force) {
            Branch old = all.get(i);
            Branch b = make(kind);
            b.g = this;
            b.on = old.on;
            b.force = force;
            b.age = old.age;
            b.cut = old.cut;
            b.lies = old.lies;
            all.set(i, b);
            for (Branch o : all) if (o.on == old) o.on = b;
        }

        int passYear() {
            int sum = 0;
            for (Branch b : all) if (b.stands()) sum += Math.max(0, b.bears());
            crop = Math.min(99999, crop + sum);
            for (Branch b : all) {
                if (b.stands()) {
                    b.force = Math.min(9, Math.max(0, b.force + b.gains()));
                    b.age = Math.min(99, b.age + 1);
                }
            }
            for (Branch b : all) if (b.cut) b.lies = Math.min(9, b.lies + 1);
            year++;
            return sum;
        }

        int draw() {
            z = z * 1103515245 + 12345;
            return z >>> 16;
        }

        int passYearByDraws() {
            if (!all.isEmpty()) {
                Branch b = all.get(draw() % all.size());
                if (draw() % 100 < laws[3]) b.force /= 2;
            }
            return passYear();
        }

        /** HARVEST, on a copy. */
        int harvest(int n) {
            Garden c = copy();
            int sum = 0;
            for (int i = 0; i < n; i++) sum += c.passYear();
            return sum;
        }

        Garden cutting(int set) {
            Garden c = copy();
            for (int i = 0; i < all.size(); i++) if ((set >> i & 1) == 1) c.all.get(i).cut = true;
            return c;
        }

        int standing() {
            int set = 0;
            for (Branch b : all) if (b.stands()) set |= 1 << b.number();
            return set;
        }
    }

    // ---------------------------------------------------------------- the object

    Garden g = new Garden();
    Garden kept = null;
    StringBuilder tape = new StringBuilder();
    List<int[]> rows = new ArrayList<>();
    Object[] sheets = new Object[4];
    /** An Integer (a branch's number), an array, or null. */
    Object[] shelves = new Object[4];
    List<Integer> trace = new ArrayList<>();

    private boolean no(int branch) { return branch < 0 || branch >= g.all.size(); }
    private static boolean out(int v, int least, int most) { return v < least || v > most; }
    private Branch at(int branch) { return g.all.get(branch); }
    private Branch onOf(int on) { return on == 0 ? null : at(on - 1); }
    private int onNumber(Branch b) { return b.on == null ? 0 : b.on.number() + 1; }

    int feed(long eight, int n) {
        if (out(n, 1, 8)) return -1;
        if (tape.length() + n > 200) return -2;
        for (int i = 0; i < n; i++) tape.append((char) (eight >>> 8 * i & 255));
        return tape.length();
    }

    // The text is read by cutting it into tokens first, and matching their row against the form.
    private record Token(String text, int at) { }

    private static List<Token> tokens(String text) {
        List<Token> list = new ArrayList<>();
        java.util.regex.Matcher m = java.util.regex.Pattern
            .compile("[a-z]+|[0-9]+|[^ ]", java.util.regex.Pattern.DOTALL).matcher(text);
        while (m.find()) list.add(new Token(m.group(), m.start()));
        list.add(new Token("", text.length()));
        return list;
    }

    private static final class Fault extends Exception {
        final int at;
        Fault(int at) { this.at = at; }
    }

    private static int number(Token t, int most) throws Fault {
        if (!t.text.matches("[0-9]{1,3}") || Integer.parseInt(t.text) > most) throw new Fault(t.at);
        return Integer.parseInt(t.text);
    }

    private static Garden read(String text) throws Fault {
        List<String> kinds = List.of("branch", "spur", "bough", "bud", "limb", "graft");
        List<String> laws = List.of("shade", "sun", "rain", "frost");
        Garden g = new Garden();
        List<Token> row = tokens(text);
        int i = 0;
        while (!row.get(i).text.isEmpty()) {
            Token head = row.get(i++);
            if (laws.contains(head.text)) {
                int law = laws.indexOf(head.text);
                g.laws[law] = number(row.get(i++), law == 3 ? 99 : 9);
            } else if (kinds.contains(head.text) && g.all.size() < 8) {
                int[] got = {-1, 0, 0};
                String[] names = {"on", "force", "age"};
                int[] most = {g.all.size() - 1, 9, 99};
                for (int k = 0; k < 3; k++) {
                    if (row.get(i).text.equals(names[k])) {
                        got[k] = number(row.get(i + 1), most[k]);
                        i += 2;
                    }
                }
                Branch on = got[0] < 0 ? null : g.all.get(got[0]);
                Branch b = g.add(kinds.indexOf(head.text), on, got[1], got[2]);
                if (row.get(i).text.equals("cut")) {
                    b.cut = true;
                    i++;
                }
            } else {
                throw new Fault(head.at);
            }
            if (!row.get(i).text.equals(";")) throw new Fault(row.get(i).at);
            i++;
        }
        return g;
    }

    int tree() {
        String text = tape.toString();
        tape.setLength(0);
        try {
            Garden told = read(text);
            told.z = g.z;
            g = told;
            rows.clear();
            return g.all.size();
        } catch (Fault f) {
            return -100 - f.at;
        }
    }

    int set(int law, int v) {
        if (out(law, 0, 3) || out(v, 0, law == 3 ? 99 : 9)) return -1;
        int was = g.laws[law];
        g.laws[law] = v;
        return was;
    }

    int lawOf(int law) { return out(law, 0, 3) ? -1 : g.laws[law]; }

    int branch(int kind, int on, int force, int age) {
        if (out(kind, 0, 5) || out(on, 0, g.all.size()) || out(force, 0, 9) || out(age, 0, 99)) return -1;
        if (g.all.size() == 8) return -2;
        return g.add(kind, onOf(on), force, age).number();
    }

    int of(int branch, int what) {
        if (no(branch) || out(what, 0, 7)) return -1;
        Branch b = at(branch);
        int deep = 0;
        for (Branch o = b.on; o != null; o = o.on) deep++;
        return new int[] {b.kind(), onNumber(b), b.force, b.age, b.cut ? 1 : 0, b.lies,
            b.stands() ? 1 : 0, deep}[what];
    }

    int does(int branch, int what) {
        if (no(branch) || out(what, 0, 2)) return -1;
        Branch b = at(branch);
        return 1000 + new int[] {b.hinders(), b.bears(), b.gains()}[what];
    }

    int stem(int branch) {
        if (no(branch)) return -1;
        int set = 0;
        for (Branch b : g.all) {
            for (Branch o = b.on; o != null; o = o.on) if (o == at(branch)) set |= 1 << b.number();
        }
        return set;
    }

    int mind(int branch, int kind, int force) {
        if (no(branch) || out(kind, 0, 5) || out(force, 0, 9)) return -1;
        int was = at(branch).kind();
        g.become(branch, kind, force);
        return was;
    }

    int age(int branch, int v) {
        if (no(branch) || out(v, 0, 99)) return -1;
        int was = at(branch).age;
        at(branch).age = v;
        return was;
    }

    int graft(int branch, int on) {
        if (no(branch) || out(on, 0, branch)) return -1;
        int was = onNumber(at(branch));
        at(branch).on = onOf(on);
        return was;
    }

    int cut(int branch) {
        if (no(branch)) return -1;
        if (at(branch).cut) return -3;
        at(branch).cut = true;
        at(branch).lies = 0;
        return Integer.bitCount(g.standing());
    }

    int back(int branch) {
        if (no(branch)) return -1;
        if (!at(branch).cut || at(branch).burnt()) return -3;
        at(branch).cut = false;
        at(branch).lies = 0;
        return Integer.bitCount(g.standing());
    }

    int years(int n) {
        if (out(n, 1, 60)) return -1;
        for (int i = 0; i < n; i++) g.passYear();
        return g.crop;
    }

    int seed(int v) {
        int was = g.z;
        g.z = v;
        return was;
    }

    int year() {
        g.passYearByDraws();
        return g.crop;
    }

    int winters(int n) {
        if (out(n, 1, 30)) return -1;
        int z = g.z, poor = 0;
        for (int i = 0; i < n; i++) {
            Garden c = g.copy();
            c.z = z;
            if (c.passYearByDraws() < g.harvest(1)) poor++;
            z = c.z;
        }
        return poor;
    }

    private int cuts() {
        int set = 0;
        for (Branch b : g.all) if (b.cut) set |= 1 << b.number();
        return set;
    }

    private int burnt() {
        int set = 0;
        for (Branch b : g.all) if (b.burnt()) set |= 1 << b.number();
        return set;
    }

    int state(int what) {
        int force = 0;
        for (Branch b : g.all) force += b.force;
        return out(what, 0, 5) ? -1
            : new int[] {g.year, g.crop, g.standing(), cuts(), force, burnt()}[what];
    }

    int harvest(int n) { return out(n, 0, 60) ? -1 : g.harvest(n); }

    int bare() {
        Garden c = g.copy();
        for (int i = 0; i <= 60; i++) {
            if (c.all.stream().noneMatch(b -> b.stands() && b.bears() > 0)) return i;
            c.passYear();
        }
        return -3;
    }

    int ripe(int branch) {
        if (no(branch)) return -1;
        Garden c = g.copy();
        for (int i = 0; i <= 60; i++) {
            if (c.all.get(branch).force == 9) return i;
            c.passYear();
        }
        return -3;
    }

    int cutFor(int n) {
        if (out(n, 1, 20)) return -1;
        int best = -3, most = g.harvest(n);
        for (Branch b : g.all) {
            if (!b.stands()) continue;
            int got = g.cutting(1 << b.number()).harvest(n);
            if (got > most) {
                most = got;
                best = b.number();
            }
        }
        return best;
    }

    int cutsFor(int n) {
        if (out(n, 1, 10)) return -1;
        int best = -1, most = -1;
        for (int few = 0; few <= 8; few++) {
            for (int set = 0; set < 1 << g.all.size(); set++) {
                if (Integer.bitCount(set) != few || (set & ~g.standing()) != 0) continue;
                int got = g.cutting(set).harvest(n);
                if (got > most) {
                    most = got;
                    best = set;
                }
            }
        }
        return best;
    }

    int kindFor(int branch, int n) {
        if (no(branch) || out(n, 1, 20)) return -1;
        int best = -1, most = -1;
        for (int k = 0; k < 6; k++) {
            Garden c = g.copy();
            c.become(branch, k, at(branch).force);
            if (c.harvest(n) > most) {
                most = c.harvest(n);
                best = k;
            }
        }
        return best;
    }

    private Garden withForce(int branch, int force) {
        Garden c = g.copy();
        c.all.get(branch).force = force;
        return c;
    }

    int forceFor(int branch, int n, int v) {
        if (no(branch) || out(n, 1, 20) || out(v, 0, 9999)) return -1;
        for (int f = 0; f <= 9; f++) if (withForce(branch, f).harvest(n) >= v) return f;
        return -3;
    }

    int regret(int branch, int n) {
        if (no(branch) || out(n, 1, 20)) return -1;
        if (!at(branch).cut || at(branch).burnt()) return -3;
        Garden c = g.copy();
        c.all.get(branch).cut = false;
        c.all.get(branch).lies = 0;
        return 10000 + c.harvest(n) - g.harvest(n);
    }

    int freeFor(int branch, int v) {
        if (no(branch) || out(v, 0, 99)) return -1;
        if (!at(branch).stands()) return -3;
        for (int few = 0; few <= 8; few++) {
            for (int set = 0; set < 1 << g.all.size(); set++) {
                boolean may = Integer.bitCount(set) == few && (set & ~g.standing()) == 0 && (set >> branch & 1) == 0;
                if (!may) continue;
                Branch b = g.cutting(set).all.get(branch);
                if (b.stands() && b.bears() >= v) return set;
            }
        }
        return -3;
    }

    private static int size(Object row) { return java.lang.reflect.Array.getLength(row); }
    private static long get(Object row, int i) { return java.lang.reflect.Array.getLong(row, i); }
    private static int sortOf(Object row) {
        return row instanceof byte[] ? 0 : row instanceof short[] ? 1 : row instanceof int[] ? 2 : 3;
    }

    int fits(int sheet, int branch, int what) {
        if (out(sheet, 0, 3) || no(branch) || out(what, 0, 1)) return -1;
        Object row = sheets[sheet];
        if (row == null) return -11;
        List<Integer> fit = new ArrayList<>();
        for (int f = 0; f <= 9; f++) {
            boolean is = true;
            for (int i = 0; i < size(row); i++) {
                is &= get(row, i) == -1 || get(row, i) == withForce(branch, f).harvest(i + 1);
            }
            if (is) fit.add(f);
        }
        return what == 0 ? fit.size() : fit.isEmpty() ? -3 : fit.get(0);
    }

    private static long part(BigInteger above, BigInteger below, int part) {
        BigInteger d = above.gcd(below);
        return (part == 0 ? above : below).divide(d).longValueExact();
    }

    long odds(int n, int k, int part) {
        if (out(n, 0, 8) || out(k, 0, n) || out(part, 0, 1)) return -1;
        // by counting the sets of winters one by one
        BigInteger above = BigInteger.ZERO;
        for (int set = 0; set < 1 << n; set++) {
            if (Integer.bitCount(set) != k) continue;
            BigInteger one = BigInteger.ONE;
            for (int i = 0; i < n; i++) {
                one = one.multiply(BigInteger.valueOf((set >> i & 1) == 1 ? g.laws[3] : 100 - g.laws[3]));
            }
            above = above.add(one);
        }
        return part(above, BigInteger.valueOf(100).pow(n), part);
    }

    long hope(int n, int part) {
        if (out(n, 0, 99) || out(part, 0, 1)) return -1;
        return part(BigInteger.valueOf((long) n * g.laws[3]), BigInteger.valueOf(100), part);
    }

    private List<int[]> rowsOf(int branch, int n) {
        List<int[]> list = new ArrayList<>();
        Garden c = g.copy();
        for (int i = 0; i < n; i++) {
            int borne = c.passYear();
            Branch b = c.all.get(branch);
            list.add(new int[] {b.force, b.stands() ? 1 : 0, borne});
        }
        return list;
    }

    int prove(int branch, int n) {
        if (no(branch) || out(n, 1, 10)) return -1;
        rows = rowsOf(branch, n);
        return rows.size();
    }

    int row(int i, int what) {
        return out(i, 0, rows.size() - 1) || out(what, 0, 2) ? -9 : rows.get(i)[what];
    }

    int alterRow(int i, int what, int v) {
        int was = row(i, what);
        if (!out(i, 0, rows.size() - 1) && !out(what, 0, 2)) rows.get(i)[what] = v;
        return was;
    }

    int judge(int branch) {
        if (no(branch)) return -1;
        List<int[]> must = rowsOf(branch, rows.size());
        for (int i = 0; i < must.size(); i++) {
            if (!java.util.Arrays.equals(must.get(i), rows.get(i))) return i + 1;
        }
        return 0;
    }

    int minds(int sheet, int i, int branch, int n) {
        if (out(sheet, 0, 3) || no(branch) || out(n, 0, 8) || branch + n > g.all.size()) return -1;
        if (sheets[sheet] == null) return -11;
        if (!(sheets[sheet] instanceof byte[] row)) return -13;
        if (out(i, 0, row.length) || i + n > row.length) return -12;
        for (int k = 0; k < n; k++) at(branch + k).force = Math.min(9, Math.max(0, row[i + k]));
        return n;
    }

    int sheet(int sheet, int sort, int n) {
        if (out(sheet, 0, 3) || out(sort, -1, 3) || sort >= 0 && n > 40) return -1;
        if (sort >= 0 && n < 0) return -14;
        sheets[sheet] = switch (sort) {
            case 0 -> new byte[n];
            case 1 -> new short[n];
            case 2 -> new int[n];
            case 3 -> new long[n];
            default -> null;
        };
        return 1;
    }

    int put(int sheet, int i, int v) {
        if (out(sheet, 0, 3)) return -1;
        Object row = sheets[sheet];
        if (row == null) return -11;
        if (out(i, 0, size(row) - 1)) return -12;
        if (row instanceof byte[] b) b[i] = (byte) v;
        else if (row instanceof short[] s) s[i] = (short) v;
        else if (row instanceof int[] n) n[i] = v;
        else if (row instanceof long[] l) l[i] = v;
        return 1;
    }

    int item(int sheet, int sort, int i) {
        if (out(sheet, 0, 3) || out(sort, 0, 3)) return -1;
        Object row = sheets[sheet];
        if (row == null) return -11;
        if (sortOf(row) != sort) return -13;
        return out(i, 0, size(row) - 1) ? -12 : (int) get(row, i);
    }

    int shelf(int shelf, int what, int n) {
        if (out(shelf, 0, 3) || out(what, 0, 2)) return -1;
        if (what == 0 && no(n) || what == 1 && out(n, 0, 3)) return -1;
        shelves[shelf] = what == 0 ? Integer.valueOf(n) : what == 1 ? sheets[n] : null;
        return 1;
    }

    private Object heldBy(int shelf) {
        return shelves[shelf] instanceof Integer n ? no(n) ? null : at(n) : shelves[shelf];
    }

    int taken(int shelf, int as) {
        if (out(shelf, 0, 3) || out(as, 0, 5) && out(as, 10, 13)) return -1;
        Object thing = heldBy(shelf);
        if (thing == null) return -11;
        if (thing instanceof Branch b) return as < 10 && isA(b, as) ? b.number() : -13;
        return as >= 10 && sortOf(thing) == as - 10 ? size(thing) : -13;
    }

    int act(int shelf, int act, int x) {
        trace = g.trace = new ArrayList<>();
        if (out(shelf, 0, 3) || out(act, 0, 3) || !(heldBy(shelf) instanceof Branch b)) return 0;
        try {
            return switch (act) {
                case 0 -> b.buds(x);
                case 1 -> b.leans(x);
                case 2 -> b.parts(x);
                default -> b.falls(x);
            };
        } catch (ArithmeticException partedBy0) {
            return -15;
        }
    }

    int trace(int i) { return out(i, 0, trace.size() - 1) ? -3 : trace.get(i); }

    int many(int what) {
        return out(what, 0, 6) ? -1 : new int[] {g.all.size(), Integer.bitCount(g.standing()),
            Integer.bitCount(cuts()), Integer.bitCount(burnt()), rows.size(), tape.length(),
            trace.size()}[what];
    }

    int keep() {
        kept = g.copy();
        return 1;
    }

    int again() {
        if (kept == null) return -3;
        g = kept.copy();
        return g.all.size();
    }
}
