import java.util.Arrays;

/**
 * A tree of branches that hinder one another, the heap of what was cut from it, and what
 * could be asked of both. The document's words (STANDS, BEARS, LIES, ..) are the names here.
 */
public final class LastPruned {
    public static final int BAD = -1, FULL = -2, NONE = -3;

    private static final int MISSING = -11, OUTSIDE = -12, OTHER_SORT = -13;
    private static final int SIZE_BELOW_0 = -14, PARTED_BY_0 = -15;
    private static final int NO_ROW = -9, FAULTS = -100;

    private static final int BRANCHES_MOST = 8, FORCE_MOST = 9, AGE_MOST = 99;
    private static final int LIES_MOST = 9, BURNT_FROM = 6, CROP_MOST = 99999, YEARS_MOST = 60;

    private static final int BRANCH = 0, SPUR = 1, BOUGH = 2, BUD = 3, LIMB = 4, GRAFT = 5;
    /** For each KIND, as bits, the KINDS that it can be taken for: itself and all above it. */
    private static final int[] TAKEN_FOR = {0b1, 0b11, 0b101, 0b1011, 0b10101, 0b100001};

    private static final int SHADE = 0, SUN = 1, RAIN = 2, FROST = 3;
    private static final int[] LAW_MOST = {9, 9, 9, 99};
    private static final int[] LAW_AT_FIRST = {2, 1, 2, 20};

    private static final int TAPE_MOST = 200, DIGITS_MOST = 3, LETTER = 0, DIGIT = 1, OTHER = 2;
    private static final int ROWS_MOST = 10, ROW_WIDTH = 3;
    private static final int SHEETS = 4, ITEMS_MOST = 40, ANY = -1;
    private static final int BYTES = 0, SHORTS = 1, LONGS = 3, NO_SORT = -1;
    private static final int SHELVES = 4, NOTHING = 0, A_BRANCH = 1, A_ROW = 2, AS_ROW = 10;

    private static final int ACTS = 4, BUDS = 0, LEANS = 1, PARTS = 2;
    private static final int TRACE_MOST = 30, ACT_DEPTH_MOST = 40;
    /** For each KIND, four bodies: those that run when it buds, leans, parts, falls. */
    private static final int[] BODIES = {
        10, 11, 12, 13,
        10, 20, 12, 13,
        30, 11, 12, 31,
        51, 20, 50, 13,
        40, 41, 12, 31,
        10, 11, 61, 60};

    private final Tree now = new Tree();
    private final Tree trial = new Tree();
    private final Tree kept = new Tree();
    private boolean isKept = false;
    private final Tape tape = new Tape();
    private final int[] rows = new int[ROWS_MOST * ROW_WIDTH];
    private int rowCount = 0;
    private final Sheets sheets = new Sheets();
    private final Shelves shelves = new Shelves();
    private final Player player = new Player();

    public LastPruned() {
    }

    // ---- the tape

    public int feed(long eight, int n) {
        if (!within(n, 1, 8)) {
            return BAD;
        }
        if (tape.length + n > TAPE_MOST) {
            return FULL;
        }
        tape.append(eight, n);
        return tape.length;
    }

    public int tree() {
        boolean told = tape.tellTo(trial);
        int fault = tape.start;
        tape.length = 0;
        if (!told) {
            return FAULTS - fault;
        }
        trial.z = now.z;
        now.copyFrom(trial);
        rowCount = 0;
        return now.count;
    }

    // ---- the laws and the branches

    public int set(int law, int v) {
        if (!isLaw(law) || !within(v, 0, LAW_MOST[law])) {
            return BAD;
        }
        int was = now.laws[law];
        now.laws[law] = v;
        return was;
    }

    public int lawOf(int law) {
        return isLaw(law) ? now.laws[law] : BAD;
    }

    public int branch(int kind, int on, int force, int age) {
        if (!isKind(kind) || !within(on, 0, now.count) || !isForce(force) || !isAge(age)) {
            return BAD;
        }
        if (now.count >= BRANCHES_MOST) {
            return FULL;
        }
        return now.add(kind, on, force, age);
    }

    public int of(int branch, int what) {
        if (!now.has(branch)) {
            return BAD;
        }
        switch (what) {
            case 0: return now.kind[branch];
            case 1: return now.on[branch];
            case 2: return now.force[branch];
            case 3: return now.age[branch];
            case 4: return bit(now.cuts, branch);
            case 5: return now.lies[branch];
            case 6: return bit(now.survey(), branch);
            case 7: return now.depthOf(branch);
            default: return BAD;
        }
    }

    public int does(int branch, int what) {
        if (!now.has(branch)) {
            return BAD;
        }
        now.survey();
        switch (what) {
            case 0: return 1000 + now.hinders(branch);
            case 1: return 1000 + now.bears(branch);
            case 2: return 1000 + now.gains(branch);
            default: return BAD;
        }
    }

    public int stem(int branch) {
        return now.has(branch) ? now.stemOf(branch) : BAD;
    }

    public int mind(int branch, int kind, int force) {
        if (!now.has(branch) || !isKind(kind) || !isForce(force)) {
            return BAD;
        }
        int was = now.kind[branch];
        now.kind[branch] = kind;
        now.force[branch] = force;
        return was;
    }

    public int age(int branch, int v) {
        if (!now.has(branch) || !isAge(v)) {
            return BAD;
        }
        int was = now.age[branch];
        now.age[branch] = v;
        return was;
    }

    public int graft(int branch, int on) {
        if (!now.has(branch) || !within(on, 0, branch)) {
            return BAD;
        }
        int was = now.on[branch];
        now.on[branch] = on;
        return was;
    }

    public int cut(int branch) {
        if (!now.has(branch)) {
            return BAD;
        }
        if (now.isCut(branch)) {
            return NONE;
        }
        now.cuts |= 1 << branch;
        return Integer.bitCount(now.survey());
    }

    public int back(int branch) {
        if (!now.has(branch)) {
            return BAD;
        }
        if (!now.canBeHadBack(branch)) {
            return NONE;
        }
        now.haveBack(branch);
        return Integer.bitCount(now.survey());
    }

    // ---- years

    public int years(int n) {
        if (!within(n, 1, YEARS_MOST)) {
            return BAD;
        }
        now.passYears(n);
        return now.crop;
    }

    public int seed(int v) {
        int was = now.z;
        now.z = v;
        return was;
    }

    public int year() {
        now.passYearByDraws();
        return now.crop;
    }

    public int winters(int n) {
        if (!within(n, 1, 30)) {
            return BAD;
        }
        int unhurt = tryNow().passYears(1);
        int z = now.z;
        int poorer = 0;
        for (int i = 0; i < n; i++) {
            tryNow().z = z;
            if (trial.passYearByDraws() < unhurt) {
                poorer++;
            }
            z = trial.z;
        }
        return poorer;
    }

    public int state(int what) {
        switch (what) {
            case 0: return now.year;
            case 1: return now.crop;
            case 2: return now.survey();
            case 3: return now.cuts;
            case 4: return now.forceOfAll();
            case 5: return now.burnt();
            default: return BAD;
        }
    }

    // ---- what is tried

    public int harvest(int n) {
        return within(n, 0, YEARS_MOST) ? tryNow().passYears(n) : BAD;
    }

    public int bare() {
        tryNow();
        for (int passed = 0; passed <= YEARS_MOST; passed++) {
            if (trial.isBare()) {
                return passed;
            }
            trial.passYear();
        }
        return NONE;
    }

    public int ripe(int branch) {
        if (!now.has(branch)) {
            return BAD;
        }
        tryNow();
        for (int passed = 0; passed <= YEARS_MOST; passed++) {
            if (trial.force[branch] == FORCE_MOST) {
                return passed;
            }
            trial.passYear();
        }
        return NONE;
    }

    public int cutFor(int n) {
        if (!within(n, 1, 20)) {
            return BAD;
        }
        int standing = now.survey();
        int most = tryNow().passYears(n);
        int best = NONE;
        for (int i = 0; i < now.count; i++) {
            int got = bit(standing, i) == 1 ? harvestCutting(1 << i, n) : 0;
            if (got > most) {
                most = got;
                best = i;
            }
        }
        return best;
    }

    public int cutsFor(int n) {
        if (!within(n, 1, 10)) {
            return BAD;
        }
        int standing = now.survey();
        int most = tryNow().passYears(n);
        int best = 0;
        for (int set = 1; set < 1 << now.count; set++) {
            int got = isSubset(set, standing) ? harvestCutting(set, n) : -1;
            if (got > most || got == most && isFewer(set, best)) {
                most = got;
                best = set;
            }
        }
        return best;
    }

    public int kindFor(int branch, int n) {
        if (!now.has(branch) || !within(n, 1, 20)) {
            return BAD;
        }
        int most = -1;
        int best = BRANCH;
        for (int kind = BRANCH; kind <= GRAFT; kind++) {
            tryNow().kind[branch] = kind;
            int got = trial.passYears(n);
            if (got > most) {
                most = got;
                best = kind;
            }
        }
        return best;
    }

    public int forceFor(int branch, int n, int v) {
        if (!now.has(branch) || !within(n, 1, 20) || !within(v, 0, 9999)) {
            return BAD;
        }
        for (int force = 0; force <= FORCE_MOST; force++) {
            tryNow().force[branch] = force;
            if (trial.passYears(n) >= v) {
                return force;
            }
        }
        return NONE;
    }

    public int regret(int branch, int n) {
        if (!now.has(branch) || !within(n, 1, 20)) {
            return BAD;
        }
        if (!now.canBeHadBack(branch)) {
            return NONE;
        }
        int without = tryNow().passYears(n);
        tryNow().haveBack(branch);
        return 10000 + trial.passYears(n) - without;
    }

    public int freeFor(int branch, int v) {
        if (!now.has(branch) || !within(v, 0, 99)) {
            return BAD;
        }
        int standing = now.survey();
        if (bit(standing, branch) == 0) {
            return NONE;
        }
        int others = standing & ~(1 << branch);
        int best = NONE;
        for (int set = 0; set < 1 << now.count; set++) {
            boolean isBetter = isSubset(set, others) && (best == NONE || isFewer(set, best));
            if (isBetter && isFreeBy(set, branch, v)) {
                best = set;
            }
        }
        return best;
    }

    public int fits(int sheet, int branch, int what) {
        if (!sheets.has(sheet) || !now.has(branch) || !within(what, 0, 1)) {
            return BAD;
        }
        if (sheets.isMissing(sheet)) {
            return MISSING;
        }
        int fitting = 0;
        int least = NONE;
        for (int force = FORCE_MOST; force >= 0; force--) {
            if (isFitting(sheet, branch, force)) {
                fitting++;
                least = force;
            }
        }
        return what == 0 ? fitting : least;
    }

    // ---- odds

    public long odds(int n, int k, int part) {
        if (!within(n, 0, 8) || !within(k, 0, n) || !within(part, 0, 1)) {
            return BAD;
        }
        int frost = now.laws[FROST];
        long above = waysToChoose(n, k) * power(frost, k) * power(100 - frost, n - k);
        return partOf(above, power(100, n), part);
    }

    public long hope(int n, int part) {
        if (!within(n, 0, 99) || !within(part, 0, 1)) {
            return BAD;
        }
        return partOf((long) n * now.laws[FROST], 100, part);
    }

    // ---- rows

    public int prove(int branch, int n) {
        if (!now.has(branch) || !within(n, 1, ROWS_MOST)) {
            return BAD;
        }
        tryNow();
        for (int i = 0; i < n; i++) {
            int at = i * ROW_WIDTH;
            rows[at + 2] = trial.passYear();
            rows[at] = trial.force[branch];
            rows[at + 1] = bit(trial.standing, branch);
        }
        rowCount = n;
        return n;
    }

    public int row(int i, int what) {
        return hasRow(i, what) ? rows[i * ROW_WIDTH + what] : NO_ROW;
    }

    public int alterRow(int i, int what, int v) {
        if (!hasRow(i, what)) {
            return NO_ROW;
        }
        int was = rows[i * ROW_WIDTH + what];
        rows[i * ROW_WIDTH + what] = v;
        return was;
    }

    public int judge(int branch) {
        if (!now.has(branch)) {
            return BAD;
        }
        tryNow();
        for (int i = 0; i < rowCount; i++) {
            int at = i * ROW_WIDTH;
            int borne = trial.passYear();
            boolean isRight = rows[at] == trial.force[branch]
                && rows[at + 1] == bit(trial.standing, branch)
                && rows[at + 2] == borne;
            if (!isRight) {
                return i + 1;
            }
        }
        return 0;
    }

    // ---- sheets

    public int minds(int sheet, int i, int branch, int n) {
        boolean isTold = sheets.has(sheet) && now.has(branch) && within(n, 0, BRANCHES_MOST);
        if (!isTold || branch + n > now.count) {
            return BAD;
        }
        if (sheets.isMissing(sheet)) {
            return MISSING;
        }
        if (sheets.sort[sheet] != BYTES) {
            return OTHER_SORT;
        }
        if (!within(i, 0, sheets.size[sheet]) || i + n > sheets.size[sheet]) {
            return OUTSIDE;
        }
        for (int k = 0; k < n; k++) {
            now.force[branch + k] = held((int) sheets.items[sheet][i + k], 0, FORCE_MOST);
        }
        return n;
    }

    public int sheet(int sheet, int sort, int n) {
        if (!sheets.has(sheet) || !within(sort, NO_SORT, LONGS)) {
            return BAD;
        }
        if (sort == NO_SORT) {
            sheets.sort[sheet] = NO_SORT;
            return 1;
        }
        if (n > ITEMS_MOST) {
            return BAD;
        }
        if (n < 0) {
            return SIZE_BELOW_0;
        }
        sheets.lay(sheet, sort, n);
        return 1;
    }

    public int put(int sheet, int i, int v) {
        if (!sheets.has(sheet)) {
            return BAD;
        }
        if (sheets.isMissing(sheet)) {
            return MISSING;
        }
        if (!sheets.hasItem(sheet, i)) {
            return OUTSIDE;
        }
        sheets.items[sheet][i] = narrowed(v, sheets.sort[sheet]);
        return 1;
    }

    public int item(int sheet, int sort, int i) {
        if (!sheets.has(sheet) || !within(sort, BYTES, LONGS)) {
            return BAD;
        }
        if (sheets.isMissing(sheet)) {
            return MISSING;
        }
        if (sheets.sort[sheet] != sort) {
            return OTHER_SORT;
        }
        return sheets.hasItem(sheet, i) ? (int) sheets.items[sheet][i] : OUTSIDE;
    }

    // ---- shelves and acts

    public int shelf(int shelf, int what, int n) {
        if (!shelves.has(shelf) || !within(what, 0, 2)) {
            return BAD;
        }
        if (what == 0 && !now.has(n) || what == 1 && !sheets.has(n)) {
            return BAD;
        }
        if (what == 0) {
            shelves.holdBranch(shelf, n);
        } else if (what == 1 && !sheets.isMissing(n)) {
            shelves.holdRow(shelf, sheets.sort[n], sheets.size[n]);
        } else {
            shelves.holdNothing(shelf);
        }
        return 1;
    }

    public int taken(int shelf, int as) {
        boolean isAs = isKind(as) || within(as, AS_ROW + BYTES, AS_ROW + LONGS);
        if (!shelves.has(shelf) || !isAs) {
            return BAD;
        }
        int what = shelves.heldOf(shelf, now);
        if (what == NOTHING) {
            return MISSING;
        }
        if (what == A_ROW) {
            return as - AS_ROW == shelves.sort[shelf] ? shelves.size[shelf] : OTHER_SORT;
        }
        int branch = shelves.number[shelf];
        return isKind(as) && bit(TAKEN_FOR[now.kind[branch]], as) == 1 ? branch : OTHER_SORT;
    }

    public int act(int shelf, int act, int x) {
        player.begin();
        boolean isAct = shelves.has(shelf) && within(act, 0, ACTS - 1);
        if (!isAct || shelves.heldOf(shelf, now) != A_BRANCH) {
            return 0;
        }
        int branch = shelves.number[shelf];
        return player.play(now.kind[branch], branch, now.force[branch], act, x);
    }

    public int trace(int i) {
        return within(i, 0, player.count - 1) ? player.bodies[i] : NONE;
    }

    // ---- how many, and what is kept

    public int many(int what) {
        switch (what) {
            case 0: return now.count;
            case 1: return Integer.bitCount(now.survey());
            case 2: return Integer.bitCount(now.cuts);
            case 3: return Integer.bitCount(now.burnt());
            case 4: return rowCount;
            case 5: return tape.length;
            case 6: return player.count;
            default: return BAD;
        }
    }

    public int keep() {
        kept.copyFrom(now);
        isKept = true;
        return 1;
    }

    public int again() {
        if (!isKept) {
            return NONE;
        }
        now.copyFrom(kept);
        return now.count;
    }

    // ---- helpers

    private Tree tryNow() {
        trial.copyFrom(now);
        return trial;
    }

    private int harvestCutting(int set, int n) {
        tryNow().cuts |= set;
        return trial.passYears(n);
    }

    private boolean isFreeBy(int set, int branch, int v) {
        tryNow().cuts |= set;
        return bit(trial.survey(), branch) == 1 && trial.bears(branch) >= v;
    }

    private boolean isFitting(int sheet, int branch, int force) {
        tryNow().force[branch] = force;
        long borne = 0;
        for (int i = 0; i < sheets.size[sheet]; i++) {
            borne += trial.passYear();
            long told = sheets.items[sheet][i];
            if (told != ANY && told != borne) {
                return false;
            }
        }
        return true;
    }

    private boolean hasRow(int i, int what) {
        return within(i, 0, rowCount - 1) && within(what, 0, ROW_WIDTH - 1);
    }

    private static boolean within(int v, int least, int most) {
        return v >= least && v <= most;
    }

    private static int held(int v, int least, int most) {
        return Math.max(least, Math.min(most, v));
    }

    private static boolean isLaw(int law) {
        return within(law, SHADE, FROST);
    }

    private static boolean isKind(int kind) {
        return within(kind, BRANCH, GRAFT);
    }

    private static boolean isForce(int force) {
        return within(force, 0, FORCE_MOST);
    }

    private static boolean isAge(int age) {
        return within(age, 0, AGE_MOST);
    }

    private static int bit(int set, int i) {
        return set >> i & 1;
    }

    private static boolean isSubset(int set, int all) {
        return (set & ~all) == 0;
    }

    private static boolean isFewer(int set, int other) {
        return Integer.bitCount(set) < Integer.bitCount(other);
    }

    private static long narrowed(int v, int sort) {
        switch (sort) {
            case BYTES: return (byte) v;
            case SHORTS: return (short) v;
            default: return v;
        }
    }

    private static long power(int base, int n) {
        long product = 1;
        for (int i = 0; i < n; i++) {
            product *= base;
        }
        return product;
    }

    private static long waysToChoose(int n, int k) {
        long ways = 1;
        for (int i = 1; i <= k; i++) {
            ways = ways * (n - k + i) / i;
        }
        return ways;
    }

    private static long partOf(long above, long below, int part) {
        long divisor = commonDivisor(above, below);
        long whole = part == 0 ? above : below;
        return divisor == 0 ? whole : whole / divisor;
    }

    private static long commonDivisor(long a, long b) {
        long greater = a;
        long less = b;
        for (int i = 0; i < 200 && less != 0; i++) {
            long rest = greater % less;
            greater = less;
            less = rest;
        }
        return greater;
    }

    /** All that is kept and tried: LAWS, YEAR, CROP, z and the BRANCHES. */
    private static final class Tree {
        final int[] laws = LAW_AT_FIRST.clone();
        final int[] kind = new int[BRANCHES_MOST];
        /** ON which: 0 the trunk, else 1 and the number. */
        final int[] on = new int[BRANCHES_MOST];
        final int[] force = new int[BRANCHES_MOST];
        final int[] age = new int[BRANCHES_MOST];
        final int[] lies = new int[BRANCHES_MOST];
        int cuts = 0;
        int count = 0;
        int year = 0;
        int crop = 0;
        int z = 1;

        /** What survey() found; by ON which, so that no one has to look at all others. */
        int standing = 0;
        final int[] hindrance = new int[BRANCHES_MOST + 1];
        final int[] load = new int[BRANCHES_MOST + 1];

        void copyFrom(Tree other) {
            System.arraycopy(other.laws, 0, laws, 0, laws.length);
            System.arraycopy(other.kind, 0, kind, 0, BRANCHES_MOST);
            System.arraycopy(other.on, 0, on, 0, BRANCHES_MOST);
            System.arraycopy(other.force, 0, force, 0, BRANCHES_MOST);
            System.arraycopy(other.age, 0, age, 0, BRANCHES_MOST);
            System.arraycopy(other.lies, 0, lies, 0, BRANCHES_MOST);
            cuts = other.cuts;
            count = other.count;
            year = other.year;
            crop = other.crop;
            z = other.z;
        }

        void clear() {
            System.arraycopy(LAW_AT_FIRST, 0, laws, 0, laws.length);
            cuts = 0;
            count = 0;
            year = 0;
            crop = 0;
        }

        boolean has(int branch) {
            return within(branch, 0, count - 1);
        }

        int add(int itsKind, int itsOn, int itsForce, int itsAge) {
            int branch = count;
            kind[branch] = itsKind;
            on[branch] = itsOn;
            force[branch] = itsForce;
            age[branch] = itsAge;
            lies[branch] = 0;
            count++;
            return branch;
        }

        boolean isCut(int branch) {
            return bit(cuts, branch) == 1;
        }

        boolean canBeHadBack(int branch) {
            return isCut(branch) && lies[branch] < BURNT_FROM;
        }

        void haveBack(int branch) {
            cuts &= ~(1 << branch);
            lies[branch] = 0;
        }

        int burnt() {
            int set = 0;
            for (int i = 0; i < count; i++) {
                if (isCut(i) && lies[i] >= BURNT_FROM) {
                    set |= 1 << i;
                }
            }
            return set;
        }

        int forceOfAll() {
            int sum = 0;
            for (int i = 0; i < count; i++) {
                sum += force[i];
            }
            return sum;
        }

        int depthOf(int branch) {
            int depth = 0;
            int under = on[branch];
            for (int i = 0; i < BRANCHES_MOST && under > 0; i++) {
                depth++;
                under = on[under - 1];
            }
            return depth;
        }

        int stemOf(int branch) {
            int set = 1 << branch;
            for (int i = branch + 1; i < count; i++) {
                if (on[i] > 0 && bit(set, on[i] - 1) == 1) {
                    set |= 1 << i;
                }
            }
            return set & ~(1 << branch);
        }

        /** One pass is enough, as each is ON one of a lesser number. Answers those that STAND. */
        int survey() {
            standing = 0;
            Arrays.fill(hindrance, 0);
            Arrays.fill(load, 0);
            for (int i = 0; i < count; i++) {
                boolean isBorneUp = on[i] == 0 || bit(standing, on[i] - 1) == 1;
                if (isBorneUp && !isCut(i)) {
                    standing |= 1 << i;
                    hindrance[on[i]] += hinders(i);
                    load[on[i]]++;
                }
            }
            return standing;
        }

        int hinders(int branch) {
            int third = force[branch] / 3;
            switch (kind[branch]) {
                case SPUR: return third - 1;
                case BUD: return year % 2 == 0 ? third - 1 : 0;
                case BOUGH: return third + laws[SHADE];
                case LIMB: return 2 * (third + laws[SHADE]);
                case GRAFT: return 0;
                default: return third;
            }
        }

        /** By the latest survey(). */
        int bears(int branch) {
            int own = bit(standing, branch) == 1 ? hinders(branch) : 0;
            int free = force[branch] - (hindrance[on[branch]] - own);
            switch (kind[branch]) {
                case SPUR: return free + laws[SUN];
                case BUD: return age[branch] < 3 ? 0 : free + laws[SUN];
                case BOUGH: return free - load[branch + 1];
                case LIMB: return free - load[branch + 1] - age[branch] / 10;
                case GRAFT: return year % 3 == 0 ? free + laws[RAIN] : free;
                default: return free;
            }
        }

        int gains(int branch) {
            int asBough = age[branch] < 20 ? 1 : -1;
            switch (kind[branch]) {
                case SPUR: return 2;
                case BUD: return 3;
                case BOUGH: return asBough;
                case LIMB: return 2 * asBough;
                case GRAFT: return 0;
                default: return 1;
            }
        }

        boolean isBare() {
            survey();
            for (int i = 0; i < count; i++) {
                if (bit(standing, i) == 1 && bears(i) > 0) {
                    return false;
                }
            }
            return true;
        }

        /** Answers what all bore, not held as CROP is. */
        int passYear() {
            survey();
            int borne = 0;
            for (int i = 0; i < count; i++) {
                if (bit(standing, i) == 1) {
                    borne += Math.max(0, bears(i));
                }
            }
            for (int i = 0; i < count; i++) {
                growOrLie(i);
            }
            crop = Math.min(CROP_MOST, crop + borne);
            year++;
            return borne;
        }

        void growOrLie(int branch) {
            if (bit(standing, branch) == 1) {
                force[branch] = held(force[branch] + gains(branch), 0, FORCE_MOST);
                age[branch] = Math.min(AGE_MOST, age[branch] + 1);
            }
            if (isCut(branch)) {
                lies[branch] = Math.min(LIES_MOST, lies[branch] + 1);
            }
        }

        int passYears(int n) {
            int borne = 0;
            for (int i = 0; i < n; i++) {
                borne += passYear();
            }
            return borne;
        }

        int passYearByDraws() {
            if (count > 0) {
                int hit = nextDraw() % count;
                if (nextDraw() % 100 < laws[FROST]) {
                    force[hit] /= 2;
                }
            }
            return passYear();
        }

        int nextDraw() {
            z = z * 1103515245 + 12345;
            return z >>> 16;
        }
    }

    /** THE TAPE and its reader, which stays at the first token that can't stand where it is. */
    private static final class Tape {
        final int[] bytes = new int[TAPE_MOST];
        int length = 0;
        /** The token that is looked at: from start up to, not with, end; none at the end. */
        int start = 0;
        int end = 0;
        int sort = OTHER;
        boolean isFaulty = false;

        void append(long eight, int n) {
            for (int i = 0; i < n && length < TAPE_MOST; i++) {
                bytes[length] = (int) (eight >>> 8 * i) & 255;
                length++;
            }
        }

        /** Whether the text is as it must be; if not, start is its FAULT. */
        boolean tellTo(Tree told) {
            told.clear();
            isFaulty = false;
            end = 0;
            step();
            for (int i = 0; i < TAPE_MOST && start < length && !isFaulty; i++) {
                int kind = kindNamed();
                int law = lawNamed();
                if (isKind(kind) && told.count < BRANCHES_MOST) {
                    tellBranch(told, kind);
                } else if (isLaw(law)) {
                    tellLaw(told, law);
                } else {
                    isFaulty = true;
                }
            }
            return !isFaulty;
        }

        void tellBranch(Tree told, int kind) {
            step();
            int on = passNumberBehind("on", told.count - 1);
            int force = passNumberBehind("force", FORCE_MOST);
            int age = passNumberBehind("age", AGE_MOST);
            boolean isCut = pass("cut");
            passClose();
            if (isFaulty) {
                return;
            }
            int branch = told.add(kind, on + 1, Math.max(0, force), Math.max(0, age));
            if (isCut) {
                told.cuts |= 1 << branch;
            }
        }

        void tellLaw(Tree told, int law) {
            step();
            int v = passNumber(LAW_MOST[law]);
            passClose();
            if (!isFaulty) {
                told.laws[law] = v;
            }
        }

        int kindNamed() {
            return is("branch") ? BRANCH
                : is("spur") ? SPUR
                : is("bough") ? BOUGH
                : is("bud") ? BUD
                : is("limb") ? LIMB
                : is("graft") ? GRAFT : -1;
        }

        int lawNamed() {
            return is("shade") ? SHADE
                : is("sun") ? SUN
                : is("rain") ? RAIN
                : is("frost") ? FROST : -1;
        }

        /** -1, if the name is not there. */
        int passNumberBehind(String name, int most) {
            return pass(name) ? passNumber(most) : -1;
        }

        int passNumber(int most) {
            int v = tokenNumber();
            if (v < 0 || v > most) {
                isFaulty = true;
                return -1;
            }
            step();
            return v;
        }

        /** -1, if it is no number, or of too many digits. */
        int tokenNumber() {
            if (sort != DIGIT || end - start > DIGITS_MOST) {
                return -1;
            }
            int v = 0;
            for (int i = start; i < end; i++) {
                v = v * 10 + bytes[i] - '0';
            }
            return v;
        }

        void passClose() {
            if (!pass(";")) {
                isFaulty = true;
            }
        }

        boolean pass(String token) {
            if (isFaulty || !is(token)) {
                return false;
            }
            step();
            return true;
        }

        boolean is(String token) {
            if (end - start != token.length()) {
                return false;
            }
            for (int i = start; i < end; i++) {
                if (bytes[i] != token.charAt(i - start)) {
                    return false;
                }
            }
            return true;
        }

        void step() {
            start = end;
            while (start < length && bytes[start] == ' ') {
                start++;
            }
            sort = start < length ? sortOf(bytes[start]) : OTHER;
            end = Math.min(start + 1, length);
            while (end < length && sort != OTHER && sortOf(bytes[end]) == sort) {
                end++;
            }
        }

        static int sortOf(int b) {
            if (b >= 'a' && b <= 'z') {
                return LETTER;
            }
            return b >= '0' && b <= '9' ? DIGIT : OTHER;
        }
    }

    /** SHEETS, each in a row of longs made once, which is wide enough for every sort. */
    private static final class Sheets {
        final long[][] items = new long[SHEETS][ITEMS_MOST];
        final int[] sort = {NO_SORT, NO_SORT, NO_SORT, NO_SORT};
        final int[] size = new int[SHEETS];

        boolean has(int sheet) {
            return within(sheet, 0, SHEETS - 1);
        }

        boolean isMissing(int sheet) {
            return sort[sheet] == NO_SORT;
        }

        boolean hasItem(int sheet, int i) {
            return within(i, 0, size[sheet] - 1);
        }

        void lay(int sheet, int itsSort, int n) {
            Arrays.fill(items[sheet], 0);
            sort[sheet] = itsSort;
            size[sheet] = n;
        }
    }

    /**
     * SHELVES. One that holds a row goes on holding it when the SHEET becomes another; of a
     * row only its sort and size can be asked here, and these never change, so they stand for it.
     */
    private static final class Shelves {
        final int[] what = new int[SHELVES];
        final int[] number = new int[SHELVES];
        final int[] sort = new int[SHELVES];
        final int[] size = new int[SHELVES];

        boolean has(int shelf) {
            return within(shelf, 0, SHELVES - 1);
        }

        void holdNothing(int shelf) {
            what[shelf] = NOTHING;
        }

        void holdBranch(int shelf, int branch) {
            what[shelf] = A_BRANCH;
            number[shelf] = branch;
        }

        void holdRow(int shelf, int itsSort, int itsSize) {
            what[shelf] = A_ROW;
            sort[shelf] = itsSort;
            size[shelf] = itsSize;
        }

        int heldOf(int shelf, Tree tree) {
            boolean isGone = what[shelf] == A_BRANCH && !tree.has(number[shelf]);
            return isGone ? NOTHING : what[shelf];
        }
    }

    /** Plays one ACT of one thing, body by body, and keeps THE TRACE. */
    private static final class Player {
        final int[] bodies = new int[TRACE_MOST];
        int count = 0;
        /** Once something was parted by 0 no further body may begin. */
        boolean isStopped = false;
        int kind = BRANCH;
        int n = 0;
        int a = 0;

        void begin() {
            count = 0;
            isStopped = false;
        }

        int play(int itsKind, int number, int force, int act, int x) {
            kind = itsKind;
            n = number;
            a = force;
            int answer = playOwn(act, x, 0);
            return isStopped ? PARTED_BY_0 : answer;
        }

        private int playOwn(int act, int x, int depth) {
            int at = kind * ACTS + act;
            return within(at, 0, BODIES.length - 1) ? run(BODIES[at], x, depth) : 0;
        }

        private int run(int body, int x, int depth) {
            if (isStopped || depth > ACT_DEPTH_MOST) {
                return 0;
            }
            note(body);
            int deeper = depth + 1;
            switch (body) {
                case 10: return x * 3 + n;
                case 11: return playOwn(BUDS, x, deeper) - a;
                case 12: return part(x);
                case 13: return playOwn(LEANS, x, deeper) ^ 17;
                case 20: return run(11, x, deeper) * 2;
                case 30: return run(10, x, deeper) - 1;
                case 31: return run(13, x, deeper) + playOwn(PARTS, n, deeper);
                case 40: return 0 - run(30, x, deeper);
                case 41: return run(11, x, deeper) ^ playOwn(BUDS, a, deeper);
                case 50: return run(12, x - a, deeper) + 9;
                case 51: return run(10, x, deeper) + n;
                case 60: return 70 - run(13, x, deeper);
                case 61: return run(12, x, deeper) - playOwn(BUDS, n, deeper);
                default: return 0;
            }
        }

        private int part(int x) {
            if (a == n) {
                isStopped = true;
                return 0;
            }
            return x / (a - n);
        }

        private void note(int body) {
            if (count < TRACE_MOST) {
                bodies[count] = body;
                count++;
            }
        }
    }
}
