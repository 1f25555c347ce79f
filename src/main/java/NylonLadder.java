import java.util.ArrayList;

/**
 * A ladder in a stocking: a drawer of stockings, two ways, trials of these, rows, things and
 * what is kept. The promises stand in DOC.md; README.md says how to use it.
 */
public final class NylonLadder {
    public static final int BAD = -1, FULL = -2, NONE = -3, STATE = -4;

    private static final int NOTHING = -11, OUTSIDE = -12, OTHER = -13, BELOW = -14, PARTED = -15;
    /** What stands for no foot, no ladder, no row: an answer, not a refusal. */
    private static final int MISSING = -9;

    private static final int STEP = 0, BEND = 1, DRY = 2, SHOE = 3, HEM = 4, MEND = 5, NEW = 6, SNAG = 7;
    private static final int[] LAWS_AT_FIRST = {3, 10, 2, 8, 60, 2, 190, 2};
    private static final int[] LEAST_LAWS = {0, 0, 1, 0, 31, 0, 1, 0};
    private static final int[] GREATEST_LAWS = {9, 20, 5, 30, 100, 99, 999, 10};

    private static final int PLAIN = 0, SHEER = 1, THICK = 2, MESH = 3, LINED = 4, OLD = 5;
    /** By kind: the kind that it stands under. */
    private static final int[] ABOVE = {PLAIN, PLAIN, PLAIN, SHEER, THICK, PLAIN};

    private static final int STEPS = 0, STAIRS = 1, SIT = 2, STANDING = 3;

    private static final int LAST_RUNG = 99, MOST_STOCKINGS = 8, MOST_DABS = 2, MOST_LEGS = 10;
    private static final int MOST_BYTES = 200, MOST_ITEMS = 40, MOST_BODIES = 30;
    private static final int SHEETS = 4, SHELVES = 4;

    private final Drawer now = new Drawer();
    private final Drawer kept = new Drawer();
    private boolean isKept = false;
    /** Made once and used again by every trial, since what a call makes is never given back. */
    private final Drawer tried = new Drawer();
    private final Stocking begun = new Stocking();

    private final Tape tape = new Tape();
    private final int[][] rows = new int[MOST_LEGS][3];
    private int rowCount = 0;
    private final Sheet[] sheets = new Sheet[SHEETS];
    private final int[] shelvedStockings = {-1, -1, -1, -1};
    private final Sheet[] shelvedRows = new Sheet[SHELVES];
    private final ArrayList<Integer> ran = new ArrayList<>();

    public NylonLadder() {
    }

    // ---- the drawer

    public int feed(long eight, int n) {
        if (!isWithin(n, 1, 8)) {
            return BAD;
        }
        if (tape.length + n > MOST_BYTES) {
            return FULL;
        }
        for (int i = 0; i < n; i++) {
            tape.addByte((int) (eight >>> (8 * i)) & 255);
        }
        return tape.length;
    }

    public int drawer() {
        int fault = tape.faultOf();
        tape.length = 0;
        if (fault >= 0) {
            return -100 - fault;
        }
        tape.told.z = now.z;
        now.become(tape.told);
        rowCount = 0;
        return now.count;
    }

    public int set(int law, int v) {
        if (!isLaw(law) || !isWithin(v, LEAST_LAWS[law], GREATEST_LAWS[law])) {
            return BAD;
        }
        int was = now.laws[law];
        now.laws[law] = v;
        return was;
    }

    public int lawOf(int law) {
        return isLaw(law) ? now.laws[law] : BAD;
    }

    public int stocking(int kind, int a, int shade, int lasts) {
        if (!isKind(kind) || !isA(a) || !isWithin(shade, 0, 3) || !isWithin(lasts, 1, 30)) {
            return BAD;
        }
        return now.addStocking(kind, a, shade, lasts) ? now.count - 1 : FULL;
    }

    public int of(int stocking, int what) {
        Stocking told = now.stockingAt(stocking);
        if (told == null) {
            return BAD;
        }
        switch (what) {
            case 0: return told.kind;
            case 1: return told.a;
            case 2: return told.shade;
            case 3: return told.lasts;
            case 4: return told.worn;
            case 5: return told.angle;
            case 6: return told.low;
            case 7: return told.high;
            case 8: return now.footOf(stocking);
            case 9: return told.openRungs();
            default: return BAD;
        }
    }

    public int mind(int stocking, int kind, int a) {
        Stocking told = now.stockingAt(stocking);
        if (told == null || !isKind(kind) || !isA(a)) {
            return BAD;
        }
        int was = told.kind;
        told.kind = kind;
        told.a = a;
        return was;
    }

    public int snag(int stocking, int rung) {
        Stocking told = now.stockingAt(stocking);
        if (told == null || !isRung(rung)) {
            return BAD;
        }
        return told.beginLadder(rung) ? 1 : STATE;
    }

    public int turn(int stocking, int angle) {
        Stocking told = now.stockingAt(stocking);
        if (told == null || !isWithin(angle, 0, 3)) {
            return BAD;
        }
        int was = told.angle;
        told.angle = angle;
        return was;
    }

    public int dab(int stocking, int rung) {
        Stocking told = now.stockingAt(stocking);
        return told == null ? BAD : told.addDab(rung, now.laws[DRY]);
    }

    public int dabOf(int stocking, int rung) {
        Stocking told = now.stockingAt(stocking);
        if (told == null || !isRung(rung)) {
            return BAD;
        }
        int dab = told.dabAt(rung);
        return dab < 0 ? NONE : told.wets[dab];
    }

    public int wash(int stocking) {
        Stocking told = now.stockingAt(stocking);
        if (told == null) {
            return BAD;
        }
        if (now.isOnAFoot(stocking)) {
            return STATE;
        }
        int had = told.dabs;
        told.dabs = 0;
        return had;
    }

    public int mend(int stocking) {
        Stocking told = now.stockingAt(stocking);
        if (told == null) {
            return BAD;
        }
        if (now.isOnAFoot(stocking)) {
            return STATE;
        }
        if (!told.hasLadder()) {
            return NONE;
        }
        int pence = told.mendingCosts(now.laws);
        told.loseLadder();
        return pence;
    }

    public int wear(int foot, int stocking) {
        if (!isFoot(foot) || stocking != -1 && now.stockingAt(stocking) == null) {
            return BAD;
        }
        if (stocking != -1 && now.footOf(stocking) == 1 - foot) {
            return STATE;
        }
        int was = now.feet[foot];
        now.feet[foot] = stocking;
        return was < 0 ? MISSING : was;
    }

    public int leg(int way, int what, int n) {
        Way told = now.wayAt(way);
        if (told == null || !isWithin(what, STEPS, STANDING) || !isWithin(n, 1, 60)) {
            return BAD;
        }
        return told.addLeg(what, n) ? told.count : FULL;
    }

    public int legOf(int way, int i, int what) {
        Way told = now.wayAt(way);
        if (told == null || !isWithin(what, 0, 2)) {
            return BAD;
        }
        if (!told.hasLeg(i)) {
            return NONE;
        }
        switch (what) {
            case 0: return told.whats[i];
            case 1: return told.ns[i];
            default: return told.minutesOf(i);
        }
    }

    public int clear(int way) {
        Way told = now.wayAt(way);
        if (told == null) {
            return BAD;
        }
        int had = told.count;
        told.count = 0;
        return had;
    }

    // ---- ways

    public int move(int what) {
        if (!isWithin(what, STEPS, STANDING)) {
            return BAD;
        }
        for (int foot = 0; foot < 2; foot++) {
            Stocking on = now.wornOn(foot);
            if (on != null) {
                on.passLeg(what, 1, now.laws);
            }
        }
        return now.openTogether();
    }

    public int go(int way) {
        Way told = now.wayAt(way);
        if (told == null) {
            return BAD;
        }
        now.passWay(told, 0, told.count);
        return told.minutesOfAll();
    }

    public int minutes(int way) {
        Way told = now.wayAt(way);
        return told == null ? BAD : told.minutesOfAll();
    }

    public int open(int foot, int way, int n) {
        Way told = now.wayAt(way);
        if (!isFoot(foot) || told == null || !isWithin(n, 0, told.count)) {
            return BAD;
        }
        Stocking on = beginTrial(foot);
        if (on == null) {
            return NONE;
        }
        tried.passWay(told, 0, n);
        return on.openRungs();
    }

    public int seen(int side, int way, int n) {
        Way told = now.wayAt(way);
        if (!isWithin(side, 0, 3) || told == null || !isWithin(n, 0, told.count)) {
            return BAD;
        }
        tried.become(now);
        tried.passWay(told, 0, n);
        return tried.seenFrom(side);
    }

    public int when(int foot, int way, int rungs) {
        Way told = now.wayAt(way);
        if (!isFoot(foot) || told == null || !isWithin(rungs, 1, 100)) {
            return BAD;
        }
        Stocking on = beginTrial(foot);
        if (on == null) {
            return NONE;
        }
        for (int n = 0; n <= told.count; n++) {
            if (on.openRungs() >= rungs) {
                return n;
            }
            on.passWay(told, n, n + 1, now.laws);
        }
        return NONE;
    }

    public int dabbed(int foot, int way, int i) {
        Way told = now.wayAt(way);
        if (!isFoot(foot) || told == null || !isWithin(i, 0, told.count)) {
            return BAD;
        }
        return hasLadderOn(foot) ? openDabbed(foot, told, i) : NONE;
    }

    public int bestLeg(int foot, int way, int minutes) {
        Way told = now.wayAt(way);
        if (!isFoot(foot) || told == null || !isWithin(minutes, 0, 999)) {
            return BAD;
        }
        if (!hasLadderOn(foot) || told.minutesOfAll() + now.laws[DRY] > minutes) {
            return NONE;
        }
        int best = 0;
        int least = openDabbed(foot, told, 0);
        for (int i = 1; i <= told.count; i++) {
            int open = openDabbed(foot, told, i);
            if (open < least) {
                best = i;
                least = open;
            }
        }
        return best;
    }

    public int turned(int foot, int way, int sides) {
        Way told = now.wayAt(way);
        if (!isFoot(foot) || told == null || !isWithin(sides, 1, 15)) {
            return BAD;
        }
        Stocking on = beginTrial(foot);
        if (on == null) {
            return NONE;
        }
        tried.passWay(told, 0, told.count);
        int best = 0;
        on.angle = 0;
        int least = tried.seenFromAll(sides);
        for (int angle = 1; angle < 4; angle++) {
            on.angle = angle;
            int seen = tried.seenFromAll(sides);
            if (seen < least) {
                best = angle;
                least = seen;
            }
        }
        return best;
    }

    public int better() {
        int first = openBehind(now.ways[0]);
        int second = openBehind(now.ways[1]);
        if (first != second) {
            return second < first ? 1 : 0;
        }
        return now.ways[1].minutesOfAll() < now.ways[0].minutesOfAll() ? 1 : 0;
    }

    public int good() {
        int set = 0;
        for (int i = 0; i < now.count; i++) {
            if (now.isGood(i)) {
                set |= 1 << i;
            }
        }
        return set;
    }

    public int pairs() {
        int pairs = 0;
        for (int i = 0; i < now.count; i++) {
            int ahead = 0;
            for (int j = 0; j < i; j++) {
                ahead += now.isPair(j, i) ? 1 : 0;
            }
            // Every second one of those that go with one another makes a pair full.
            pairs += ahead % 2;
        }
        return pairs;
    }

    public int mate(int stocking) {
        if (now.stockingAt(stocking) == null) {
            return BAD;
        }
        int mate = now.mateOf(stocking);
        return mate < 0 ? NONE : mate;
    }

    public long costs(int stocking, int mended, int part) {
        Stocking told = now.stockingAt(stocking);
        if (told == null || !isWithin(mended, 0, 1) || !isWithin(part, 0, 1)) {
            return BAD;
        }
        if (mended == 1 && !told.isLasting()) {
            return NONE;
        }
        int above = mended == 1 ? told.mendingCosts(now.laws) : now.laws[NEW];
        int below = mended == 1 ? told.lasts - told.worn : told.lasts;
        int divisor = greatestDivisor(above, below);
        return (part == 0 ? above : below) / divisor;
    }

    public int worth(int stocking) {
        Stocking told = now.stockingAt(stocking);
        if (told == null) {
            return BAD;
        }
        if (!told.isLasting()) {
            return NONE;
        }
        int mended = told.mendingCosts(now.laws) * told.lasts;
        return mended < now.laws[NEW] * (told.lasts - told.worn) ? 1 : 0;
    }

    public int since(int stocking, int way, int rung) {
        Stocking told = now.stockingAt(stocking);
        Way gone = now.wayAt(way);
        if (told == null || gone == null || !isRung(rung)) {
            return BAD;
        }
        if (!told.hasLadder()) {
            return NONE;
        }
        for (int i = gone.count; i >= 0; i--) {
            if (hasBegun(told, gone, i, rung)) {
                return i;
            }
        }
        return NONE;
    }

    public int from(int stocking, int way, int i) {
        Stocking told = now.stockingAt(stocking);
        Way gone = now.wayAt(way);
        if (told == null || gone == null || !isWithin(i, 0, gone.count)) {
            return BAD;
        }
        if (!told.hasLadder()) {
            return NONE;
        }
        // A ladder never closes, so it can't have begun outside of what is open now.
        for (int rung = told.low; rung <= told.high; rung++) {
            if (hasBegun(told, gone, i, rung)) {
                return rung;
            }
        }
        return NONE;
    }

    public int seed(int v) {
        int was = now.z;
        now.z = v;
        return was;
    }

    public int day() {
        return now.liveADay() ? 1 : 0;
    }

    public int month(int n) {
        if (!isWithin(n, 1, 30)) {
            return BAD;
        }
        tried.become(now);
        int days = 0;
        for (int i = 0; i < n; i++) {
            days += tried.liveADay() ? 1 : 0;
        }
        return days;
    }

    // ---- rows

    public int prove(int foot, int way) {
        Way told = now.wayAt(way);
        if (!isFoot(foot) || told == null) {
            return BAD;
        }
        Stocking on = beginTrial(foot);
        if (on == null) {
            return NONE;
        }
        for (int i = 0; i < told.count; i++) {
            on.passWay(told, i, i + 1, now.laws);
            rows[i][0] = i;
            rows[i][1] = on.low;
            rows[i][2] = on.high;
        }
        rowCount = told.count;
        return rowCount;
    }

    public int row(int i, int what) {
        return isInRows(i, what) ? rows[i][what] : MISSING;
    }

    public int alterRow(int i, int what, int v) {
        if (!isInRows(i, what)) {
            return MISSING;
        }
        int was = rows[i][what];
        rows[i][what] = v;
        return was;
    }

    public int judge(int foot, int way) {
        Way told = now.wayAt(way);
        if (!isFoot(foot) || told == null) {
            return BAD;
        }
        Stocking on = beginTrial(foot);
        if (on == null) {
            return NONE;
        }
        for (int i = 0; i < rowCount; i++) {
            on.passWay(told, i, i + 1, now.laws);
            boolean isRight = rows[i][0] == i && rows[i][1] == on.low && rows[i][2] == on.high;
            if (!told.hasLeg(i) || !isRight) {
                return i + 1;
            }
        }
        return 0;
    }

    public int minds(int sheet, int i, int stocking, int n) {
        if (!isSheet(sheet) || now.stockingAt(stocking) == null || !isWithin(n, 0, 8)
                || stocking + n > now.count) {
            return BAD;
        }
        Sheet row = sheets[sheet];
        if (row == null) {
            return NOTHING;
        }
        if (row.sort != 0) {
            return OTHER;
        }
        if (!isWithin(i, 0, row.items.length) || i + n > row.items.length) {
            return OUTSIDE;
        }
        for (int j = 0; j < n; j++) {
            now.stockings[stocking + j].a = Math.max(0, Math.min(9, (int) row.items[i + j]));
        }
        return n;
    }

    // ---- the host

    public int sheet(int sheet, int sort, int n) {
        if (!isSheet(sheet) || !isWithin(sort, -1, 3)) {
            return BAD;
        }
        if (sort == -1) {
            sheets[sheet] = null;
            return 1;
        }
        if (n > MOST_ITEMS) {
            return BAD;
        }
        if (n < 0) {
            return BELOW;
        }
        // A new row, and not the old one made empty: a shelf may still hold that.
        sheets[sheet] = new Sheet(sort, n);
        return 1;
    }

    public int put(int sheet, int i, int v) {
        if (!isSheet(sheet)) {
            return BAD;
        }
        Sheet row = sheets[sheet];
        if (row == null) {
            return NOTHING;
        }
        if (!row.hasItem(i)) {
            return OUTSIDE;
        }
        row.items[i] = row.narrowed(v);
        return 1;
    }

    public int item(int sheet, int sort, int i) {
        if (!isSheet(sheet) || !isWithin(sort, 0, 3)) {
            return BAD;
        }
        Sheet row = sheets[sheet];
        if (row == null) {
            return NOTHING;
        }
        if (row.sort != sort) {
            return OTHER;
        }
        return row.hasItem(i) ? (int) row.items[i] : OUTSIDE;
    }

    public int shelf(int shelf, int what, int n) {
        if (!isShelf(shelf) || !isWithin(what, 0, 2)
                || what == 0 && now.stockingAt(n) == null || what == 1 && !isSheet(n)) {
            return BAD;
        }
        shelvedStockings[shelf] = what == 0 ? n : -1;
        shelvedRows[shelf] = what == 1 ? sheets[n] : null;
        return 1;
    }

    public int taken(int shelf, int as) {
        if (!isShelf(shelf) || !isKind(as) && !isWithin(as, 10, 13)) {
            return BAD;
        }
        Sheet row = shelvedRows[shelf];
        if (row != null) {
            return row.sort == as - 10 ? row.items.length : OTHER;
        }
        Stocking held = now.stockingAt(shelvedStockings[shelf]);
        if (held == null) {
            return NOTHING;
        }
        return isKindUnder(held.kind, as) ? shelvedStockings[shelf] : OTHER;
    }

    public int act(int shelf, int act, int x) {
        ran.clear();
        if (!isShelf(shelf) || !isWithin(act, 0, 3)) {
            return 0;
        }
        Stocking held = now.stockingAt(shelvedStockings[shelf]);
        if (held == null) {
            return 0;
        }
        Plain thing = thingOf(held.kind, shelvedStockings[shelf], held.a);
        int answer;
        switch (act) {
            case 0: answer = thing.runs(x); break;
            case 1: answer = thing.dries(x); break;
            case 2: answer = thing.holds(x); break;
            default: answer = thing.tells(x); break;
        }
        return thing.isParted ? PARTED : answer;
    }

    public int trace(int i) {
        return isWithin(i, 0, bodiesKept() - 1) ? ran.get(i) : NONE;
    }

    public int many(int what) {
        switch (what) {
            case 0: return now.count;
            case 1: return now.ways[0].count + now.ways[1].count;
            case 2: return now.ladders();
            case 3: return now.dabsOfAll();
            case 4: return rowCount;
            case 5: return tape.length;
            case 6: return bodiesKept();
            default: return BAD;
        }
    }

    // ---- kept

    public int keep() {
        kept.become(now);
        isKept = true;
        return 1;
    }

    public int again() {
        if (!isKept) {
            return NONE;
        }
        now.become(kept);
        return now.count;
    }

    // ---- what the calls share

    private static boolean isWithin(int v, int least, int greatest) {
        return v >= least && v <= greatest;
    }

    private static boolean isLaw(int law) {
        return isWithin(law, STEP, SNAG);
    }

    private static boolean isKind(int kind) {
        return isWithin(kind, PLAIN, OLD);
    }

    private static boolean isA(int a) {
        return isWithin(a, 0, 9);
    }

    private static boolean isRung(int rung) {
        return isWithin(rung, 0, LAST_RUNG);
    }

    private static boolean isFoot(int foot) {
        return isWithin(foot, 0, 1);
    }

    private static boolean isSheet(int sheet) {
        return isWithin(sheet, 0, SHEETS - 1);
    }

    private static boolean isShelf(int shelf) {
        return isWithin(shelf, 0, SHELVES - 1);
    }

    /** No kind stands deeper than two under plain. */
    private static boolean isKindUnder(int kind, int as) {
        return as == PLAIN || as == kind || isKind(kind) && as == ABOVE[kind];
    }

    private static int greatestDivisor(int above, int below) {
        int divisor = below;
        int rest = above;
        // Two steps halve the rest at least, so an int is used up long before 100.
        for (int i = 0; i < 100 && rest != 0; i++) {
            int next = divisor % rest;
            divisor = rest;
            rest = next;
        }
        return Math.max(1, divisor);
    }

    private boolean isInRows(int i, int what) {
        return isWithin(i, 0, rowCount - 1) && isWithin(what, 0, 2);
    }

    private int bodiesKept() {
        return Math.min(MOST_BODIES, ran.size());
    }

    private boolean hasLadderOn(int foot) {
        Stocking on = now.wornOn(foot);
        return on != null && on.hasLadder();
    }

    /** Makes ready what is tried and gives what is on the foot there, or null. */
    private Stocking beginTrial(int foot) {
        tried.become(now);
        return tried.wornOn(foot);
    }

    private int openBehind(Way way) {
        tried.become(now);
        tried.passWay(way, 0, way.count);
        return tried.openTogether();
    }

    private int openDabbed(int foot, Way way, int i) {
        Stocking on = beginTrial(foot);
        if (on == null) {
            return 0;
        }
        int dry = now.laws[DRY];
        on.passWay(way, 0, i, now.laws);
        // Where a dab can't be it is refused, and that is all.
        on.addDab(on.low - 1, dry);
        on.addDab(on.high + 1, dry);
        on.stand(dry);
        on.passWay(way, i, way.count, now.laws);
        return on.openRungs();
    }

    private boolean hasBegun(Stocking told, Way way, int i, int rung) {
        begun.begin(told.kind, told.a, 0, 1);
        begun.beginLadder(rung);
        begun.passWay(way, i, way.count, now.laws);
        return begun.low == told.low && begun.high == told.high;
    }

    private Plain thingOf(int kind, int n, int a) {
        switch (kind) {
            case SHEER: return new Sheer(n, a, ran);
            case THICK: return new Thick(n, a, ran);
            case MESH: return new Mesh(n, a, ran);
            case LINED: return new Lined(n, a, ran);
            case OLD: return new Old(n, a, ran);
            default: return new Plain(n, a, ran);
        }
    }

    /** All that keep() keeps. */
    private static final class Drawer {
        final int[] laws = new int[8];
        final Stocking[] stockings = new Stocking[MOST_STOCKINGS];
        int count = 0;
        /** By foot: the number of what is on it, or -1. */
        final int[] feet = {-1, -1};
        final Way[] ways = {new Way(), new Way()};
        int z = 1;

        Drawer() {
            for (int i = 0; i < MOST_STOCKINGS; i++) {
                stockings[i] = new Stocking();
            }
            System.arraycopy(LAWS_AT_FIRST, 0, laws, 0, laws.length);
        }

        /** All is as at first, but z. */
        void empty() {
            System.arraycopy(LAWS_AT_FIRST, 0, laws, 0, laws.length);
            count = 0;
            takeOff();
            ways[0].count = 0;
            ways[1].count = 0;
        }

        void become(Drawer other) {
            System.arraycopy(other.laws, 0, laws, 0, laws.length);
            for (int i = 0; i < other.count; i++) {
                stockings[i].become(other.stockings[i]);
            }
            count = other.count;
            feet[0] = other.feet[0];
            feet[1] = other.feet[1];
            ways[0].become(other.ways[0]);
            ways[1].become(other.ways[1]);
            z = other.z;
        }

        Stocking stockingAt(int stocking) {
            return isWithin(stocking, 0, count - 1) ? stockings[stocking] : null;
        }

        boolean addStocking(int kind, int a, int shade, int lasts) {
            if (count >= MOST_STOCKINGS) {
                return false;
            }
            stockings[count].begin(kind, a, shade, lasts);
            count++;
            return true;
        }

        Way wayAt(int way) {
            return isWithin(way, 0, 1) ? ways[way] : null;
        }

        Stocking wornOn(int foot) {
            return isFoot(foot) ? stockingAt(feet[foot]) : null;
        }

        int footOf(int stocking) {
            if (feet[0] == stocking) {
                return 0;
            }
            return feet[1] == stocking ? 1 : MISSING;
        }

        boolean isOnAFoot(int stocking) {
            return footOf(stocking) != MISSING;
        }

        void takeOff() {
            feet[0] = -1;
            feet[1] = -1;
        }

        void passWay(Way way, int from, int to) {
            for (int foot = 0; foot < 2; foot++) {
                Stocking on = wornOn(foot);
                if (on != null) {
                    on.passWay(way, from, to, laws);
                }
            }
        }

        int openTogether() {
            int open = 0;
            for (int foot = 0; foot < 2; foot++) {
                Stocking on = wornOn(foot);
                open += on == null ? 0 : on.openRungs();
            }
            return open;
        }

        int seenFrom(int side) {
            int seen = 0;
            for (int foot = 0; foot < 2; foot++) {
                Stocking on = wornOn(foot);
                if (on != null && on.sideShown(foot) == side) {
                    seen += on.openAboveShoe(laws);
                }
            }
            return seen;
        }

        int seenFromAll(int sides) {
            int seen = 0;
            for (int side = 0; side < 4; side++) {
                seen += (sides >> side & 1) == 1 ? seenFrom(side) : 0;
            }
            return seen;
        }

        boolean isGood(int stocking) {
            Stocking told = stockingAt(stocking);
            return told != null && told.isLasting() && told.openAboveShoe(laws) == 0;
        }

        boolean isPair(int one, int other) {
            return one != other && isGood(one) && isGood(other)
                    && stockings[one].kind == stockings[other].kind
                    && stockings[one].shade == stockings[other].shade;
        }

        /** The least stocking with which this one is a pair, or -1. */
        int mateOf(int stocking) {
            for (int other = 0; other < count; other++) {
                if (isPair(stocking, other)) {
                    return other;
                }
            }
            return -1;
        }

        int ladders() {
            int ladders = 0;
            for (int i = 0; i < count; i++) {
                ladders += stockings[i].hasLadder() ? 1 : 0;
            }
            return ladders;
        }

        int dabsOfAll() {
            int dabs = 0;
            for (int i = 0; i < count; i++) {
                dabs += stockings[i].dabs;
            }
            return dabs;
        }

        int draw() {
            z = z * 1103515245 + 12345;
            return z >>> 16;
        }

        /** A day by draws; whether there was a pair. */
        boolean liveADay() {
            int left = leastPaired();
            int right = mateOf(left);
            if (left < 0 || right < 0) {
                return false;
            }
            feet[0] = left;
            feet[1] = right;
            if (draw() % 10 < laws[SNAG]) {
                // Drawn also for a ladder that can't begin.
                stockings[left].beginLadder(draw() % 100);
            }
            passWay(ways[0], 0, ways[0].count);
            stockings[left].worn++;
            stockings[right].worn++;
            takeOff();
            return true;
        }

        private int leastPaired() {
            for (int i = 0; i < count; i++) {
                if (mateOf(i) >= 0) {
                    return i;
                }
            }
            return -1;
        }
    }

    private static final class Stocking {
        int kind = PLAIN;
        int a = 0;
        int shade = 0;
        int lasts = 1;
        int worn = 0;
        int angle = 0;
        /** MISSING, as high is, without a ladder. */
        int low = MISSING;
        int high = MISSING;
        int dabs = 0;
        final int[] rungs = new int[MOST_DABS];
        final int[] wets = new int[MOST_DABS];

        void begin(int newKind, int newA, int newShade, int newLasts) {
            kind = newKind;
            a = newA;
            shade = newShade;
            lasts = newLasts;
            worn = 0;
            angle = 0;
            dabs = 0;
            loseLadder();
        }

        void become(Stocking other) {
            begin(other.kind, other.a, other.shade, other.lasts);
            worn = other.worn;
            angle = other.angle;
            low = other.low;
            high = other.high;
            dabs = other.dabs;
            System.arraycopy(other.rungs, 0, rungs, 0, MOST_DABS);
            System.arraycopy(other.wets, 0, wets, 0, MOST_DABS);
        }

        boolean hasLadder() {
            return low >= 0;
        }

        void loseLadder() {
            low = MISSING;
            high = MISSING;
        }

        int openRungs() {
            return hasLadder() ? high - low + 1 : 0;
        }

        int openAboveShoe(int[] laws) {
            int least = Math.max(low, laws[SHOE]);
            int greatest = Math.min(high, laws[HEM] - 1);
            return Math.max(0, greatest - least + 1);
        }

        boolean isLasting() {
            return worn < lasts;
        }

        int mendingCosts(int[] laws) {
            return laws[MEND] * openRungs();
        }

        /** What is outer on the one foot is inner on the other. */
        int sideShown(int foot) {
            return foot == 1 && angle % 2 == 1 ? 4 - angle : angle;
        }

        boolean beginLadder(int rung) {
            if (hasLadder() || dabAt(rung) >= 0) {
                return false;
            }
            low = rung;
            high = rung;
            return true;
        }

        /** Which of the dabs is on that rung, or -1. */
        int dabAt(int rung) {
            for (int i = 0; i < dabs && i < MOST_DABS; i++) {
                if (rungs[i] == rung) {
                    return i;
                }
            }
            return -1;
        }

        int addDab(int rung, int wet) {
            if (!isRung(rung)) {
                return BAD;
            }
            if (rung >= low && rung <= high || dabAt(rung) >= 0) {
                return STATE;
            }
            if (dabs >= MOST_DABS) {
                return FULL;
            }
            rungs[dabs] = rung;
            wets[dabs] = wet;
            dabs++;
            return dabs;
        }

        void passWay(Way way, int from, int to, int[] laws) {
            for (int i = from; i < to && way.hasLeg(i); i++) {
                passLeg(way.whats[i], way.ns[i], laws);
            }
        }

        void passLeg(int what, int n, int[] laws) {
            if (what == STANDING) {
                stand(n);
                return;
            }
            int moves = what == SIT ? 1 : n;
            boolean runs = true;
            // Behind a move by which nothing runs, nothing would run by the same one again.
            for (int i = 0; i < moves && runs; i++) {
                runs = passMove(what, laws);
            }
        }

        void stand(int minutes) {
            for (int i = 0; i < dabs && i < MOST_DABS; i++) {
                wets[i] = Math.max(0, wets[i] - minutes);
            }
        }

        /** Whether the ladder ran. */
        private boolean passMove(int move, int[] laws) {
            loseWetDabs();
            if (!hasLadder()) {
                return false;
            }
            int down = byKind(move == STEPS ? laws[STEP] : laws[BEND]);
            int up = byKind(move == SIT ? laws[BEND] : 0);
            int newLow = Math.max(low - down, lowest());
            int newHigh = Math.min(high + up, highest());
            boolean runs = newLow != low || newHigh != high;
            low = newLow;
            high = newHigh;
            return runs;
        }

        private void loseWetDabs() {
            int dry = 0;
            for (int i = 0; i < dabs && i < MOST_DABS; i++) {
                if (wets[i] == 0) {
                    rungs[dry] = rungs[i];
                    wets[dry] = 0;
                    dry++;
                }
            }
            dabs = dry;
        }

        private int byKind(int asPlain) {
            switch (kind) {
                case SHEER:
                case MESH: return 2 * asPlain;
                case THICK: return 0;
                case LINED: return Math.min(a, asPlain);
                case OLD: return asPlain == 0 ? 0 : asPlain + a;
                default: return asPlain;
            }
        }

        /** The lowest rung to which one move can bring LOW; only dry dabs are left by then. */
        private int lowest() {
            int lowest = kind == MESH ? (low - 1) / 10 * 10 : 0;
            for (int i = 0; i < dabs && i < MOST_DABS; i++) {
                if (rungs[i] < low) {
                    lowest = Math.max(lowest, rungs[i] + 1);
                }
            }
            return lowest;
        }

        /** The highest rung to which one move can bring HIGH, likewise. */
        private int highest() {
            int highest = kind == MESH ? Math.min(LAST_RUNG, (high / 10 + 1) * 10) : LAST_RUNG;
            for (int i = 0; i < dabs && i < MOST_DABS; i++) {
                if (rungs[i] > high) {
                    highest = Math.min(highest, rungs[i] - 1);
                }
            }
            return highest;
        }
    }

    private static final class Way {
        int count = 0;
        final int[] whats = new int[MOST_LEGS];
        final int[] ns = new int[MOST_LEGS];

        void become(Way other) {
            count = other.count;
            System.arraycopy(other.whats, 0, whats, 0, MOST_LEGS);
            System.arraycopy(other.ns, 0, ns, 0, MOST_LEGS);
        }

        boolean hasLeg(int i) {
            return isWithin(i, 0, count - 1);
        }

        boolean addLeg(int what, int n) {
            if (count >= MOST_LEGS) {
                return false;
            }
            whats[count] = what;
            ns[count] = n;
            count++;
            return true;
        }

        int minutesOf(int i) {
            if (!hasLeg(i)) {
                return 0;
            }
            switch (whats[i]) {
                case STEPS: return (ns[i] + 19) / 20;
                case STAIRS: return (ns[i] + 9) / 10;
                default: return ns[i];
            }
        }

        int minutesOfAll() {
            int minutes = 0;
            for (int i = 0; i < count; i++) {
                minutes += minutesOf(i);
            }
            return minutes;
        }
    }

    /** Takes bytes and reads their text into a drawer of its own, up to the first fault. */
    private static final class Tape {
        private static final int END = 0, BLANK = 1, NAME = 2, NUMBER = 3, SIGN = 4;

        private final int[] bytes = new int[MOST_BYTES];
        int length = 0;
        final Drawer told = new Drawer();
        /** The tokens: their sorts, the places of their first bytes and those behind their last. */
        private final int[] sorts = new int[MOST_BYTES + 1];
        private final int[] starts = new int[MOST_BYTES + 1];
        private final int[] ends = new int[MOST_BYTES + 1];
        private int count = 0;
        /** The token that is to be taken; the last one, END, never is. */
        private int at = 0;
        /** -1 as long as there is none; behind the first one nothing is taken any more. */
        private int fault = -1;

        void addByte(int added) {
            if (length < MOST_BYTES) {
                bytes[length] = added;
                length++;
            }
        }

        /** The place of the fault, or -1: then all is told. */
        int faultOf() {
            part();
            told.empty();
            at = 0;
            fault = -1;
            for (int i = 0; i < count && fault < 0 && sorts[at] != END; i++) {
                takeClause();
            }
            return fault;
        }

        private void part() {
            count = 0;
            int place = 0;
            while (place < length) {
                int start = place;
                int sort = sortOf(bytes[start]);
                place++;
                while (sort != SIGN && place < length && sortOf(bytes[place]) == sort) {
                    place++;
                }
                if (sort != BLANK) {
                    addToken(sort, start, place);
                }
            }
            addToken(END, length, length);
        }

        private void addToken(int sort, int start, int end) {
            if (count < sorts.length) {
                sorts[count] = sort;
                starts[count] = start;
                ends[count] = end;
                count++;
            }
        }

        private static int sortOf(int sign) {
            if (sign == ' ') {
                return BLANK;
            }
            if (isWithin(sign, 'a', 'z')) {
                return NAME;
            }
            return isWithin(sign, '0', '9') ? NUMBER : SIGN;
        }

        private void takeClause() {
            if (isName("left")) {
                takeFoot(0);
            } else if (isName("right")) {
                takeFoot(1);
            } else if (isName("step")) {
                takeLaw(STEP);
            } else if (isName("bend")) {
                takeLaw(BEND);
            } else if (isName("go")) {
                takeWay(told.ways[0]);
            } else if (isName("cab")) {
                takeWay(told.ways[1]);
            } else {
                takeStocking();
            }
        }

        private void takeFoot(int foot) {
            take(true);
            int stocking = numberHere();
            take(told.stockingAt(stocking) != null && !told.isOnAFoot(stocking));
            take(isSign(';'));
            if (fault < 0) {
                told.feet[foot] = stocking;
            }
        }

        private void takeLaw(int law) {
            take(true);
            int v = takeNumber(LEAST_LAWS[law], GREATEST_LAWS[law]);
            take(isSign(';'));
            if (fault < 0) {
                told.laws[law] = v;
            }
        }

        private void takeWay(Way way) {
            take(true);
            way.count = 0;
            takeLeg(way);
            for (int i = 0; i < count && fault < 0 && isSign(','); i++) {
                take(true);
                takeLeg(way);
            }
            take(isSign(';'));
        }

        private void takeLeg(Way way) {
            int what = moveHere();
            take(what >= 0 && way.count < MOST_LEGS);
            int n = takeNumber(1, 60);
            if (fault < 0) {
                way.addLeg(what, n);
            }
        }

        private void takeStocking() {
            int kind = kindHere();
            take(kind >= 0 && told.count < MOST_STOCKINGS);
            int a = takeNumber(0, 9);
            take(isName("shade"));
            int shade = takeNumber(0, 3);
            take(isName("lasts"));
            int lasts = takeNumber(1, 30);
            int low = MISSING;
            int high = MISSING;
            if (fault < 0 && isName("ladder")) {
                take(true);
                low = takeNumber(0, LAST_RUNG);
                take(isName("to"));
                high = takeNumber(low, LAST_RUNG);
            }
            take(isSign(';'));
            if (fault < 0 && told.addStocking(kind, a, shade, lasts)) {
                Stocking added = told.stockings[told.count - 1];
                added.low = low;
                added.high = high;
            }
        }

        /** Goes on to the next token if this one fits; else the fault is here. */
        private void take(boolean fits) {
            if (fault >= 0) {
                return;
            }
            if (fits && at < count - 1) {
                at++;
            } else {
                fault = starts[at];
            }
        }

        private int takeNumber(int least, int greatest) {
            int number = numberHere();
            take(number >= 0 && isWithin(number, least, greatest));
            return number;
        }

        private boolean isName(String name) {
            int start = starts[at];
            if (sorts[at] != NAME || ends[at] - start != name.length()) {
                return false;
            }
            for (int i = 0; i < name.length(); i++) {
                if (bytes[start + i] != name.charAt(i)) {
                    return false;
                }
            }
            return true;
        }

        private boolean isSign(char sign) {
            return sorts[at] == SIGN && bytes[starts[at]] == sign;
        }

        /** The number that is to be taken; -1: it is none, or has more digits than two. */
        private int numberHere() {
            if (sorts[at] != NUMBER || ends[at] - starts[at] > 2) {
                return -1;
            }
            int number = 0;
            for (int i = starts[at]; i < ends[at]; i++) {
                number = 10 * number + bytes[i] - '0';
            }
            return number;
        }

        private int kindHere() {
            for (int kind = PLAIN; kind <= OLD; kind++) {
                if (isName(nameOfKind(kind))) {
                    return kind;
                }
            }
            return -1;
        }

        private int moveHere() {
            for (int what = STEPS; what <= STANDING; what++) {
                if (isName(nameOfMove(what))) {
                    return what;
                }
            }
            return -1;
        }

        private static String nameOfKind(int kind) {
            switch (kind) {
                case SHEER: return "sheer";
                case THICK: return "thick";
                case MESH: return "mesh";
                case LINED: return "lined";
                case OLD: return "old";
                default: return "plain";
            }
        }

        private static String nameOfMove(int what) {
            switch (what) {
                case STAIRS: return "stairs";
                case SIT: return "sits";
                case STANDING: return "stands";
                default: return "steps";
            }
        }
    }

    /** A row of items of one sort; every sort is held in longs, as narrow as it is. */
    private static final class Sheet {
        final int sort;
        final long[] items;

        Sheet(int sort, int n) {
            this.sort = sort;
            this.items = new long[Math.max(0, n)];
        }

        boolean hasItem(int i) {
            return isWithin(i, 0, items.length - 1);
        }

        long narrowed(int v) {
            switch (sort) {
                case 0: return (byte) v;
                case 1: return (short) v;
                default: return v;
            }
        }
    }

    /** A stocking held as a thing; the classes under it stand as the kinds do. */
    private static class Plain {
        final int n;
        final int a;
        /** The bodies that ran; the longest act runs eleven. */
        final ArrayList<Integer> ran;
        /** Parted by 0: what is worked out from here on counts for nothing, and no body begins. */
        boolean isParted = false;

        Plain(int n, int a, ArrayList<Integer> ran) {
            this.n = n;
            this.a = a;
            this.ran = ran;
        }

        int runs(int x) {
            ran.add(10);
            return x + n;
        }

        int dries(int x) {
            ran.add(11);
            return runs(x) * 2;
        }

        int holds(int x) {
            ran.add(12);
            int by = a - n;
            if (by == 0) {
                isParted = true;
                return 0;
            }
            return x / by;
        }

        int tells(int x) {
            ran.add(13);
            return dries(x) ^ a;
        }
    }

    private static class Sheer extends Plain {
        Sheer(int n, int a, ArrayList<Integer> ran) {
            super(n, a, ran);
        }

        int dries(int x) {
            ran.add(20);
            return super.dries(x) - a;
        }
    }

    private static class Thick extends Plain {
        Thick(int n, int a, ArrayList<Integer> ran) {
            super(n, a, ran);
        }

        int runs(int x) {
            ran.add(30);
            return super.runs(x) * 3;
        }

        int tells(int x) {
            ran.add(31);
            return super.tells(x) + holds(n);
        }
    }

    private static final class Lined extends Thick {
        Lined(int n, int a, ArrayList<Integer> ran) {
            super(n, a, ran);
        }

        int runs(int x) {
            ran.add(40);
            return 0 - super.runs(x);
        }

        int dries(int x) {
            ran.add(41);
            return super.dries(x) + runs(n);
        }
    }

    private static final class Mesh extends Sheer {
        Mesh(int n, int a, ArrayList<Integer> ran) {
            super(n, a, ran);
        }

        int holds(int x) {
            ran.add(50);
            return super.holds(x + 2) ^ 1;
        }

        int runs(int x) {
            ran.add(51);
            return super.runs(x) - n;
        }
    }

    private static final class Old extends Plain {
        Old(int n, int a, ArrayList<Integer> ran) {
            super(n, a, ran);
        }

        int tells(int x) {
            ran.add(60);
            return super.tells(x) * 2;
        }

        int holds(int x) {
            ran.add(61);
            int held = super.holds(x);
            return isParted ? 0 : held + runs(a);
        }
    }
}
