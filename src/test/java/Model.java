import java.nio.charset.StandardCharsets;
import java.util.*;
import java.util.regex.*;

/**
 * The document once more, written rung by rung and as plainly as it can be, with all of the
 * Java library and no care for what it makes: what NylonLadder answers is held against it.
 */
public final class Model {
    private static final int BAD = -1, FULL = -2, NONE = -3, STATE = -4;
    private static final int[][] LAWS = {{0, 9, 3}, {0, 20, 10}, {1, 5, 2}, {0, 30, 8}, {31, 100, 60}, {0, 99, 2},
        {1, 999, 190}, {0, 10, 2}};
    private static final List<String> KINDS = List.of("plain", "sheer", "thick", "mesh", "lined", "old");
    private static final List<String> MOVES = List.of("steps", "stairs", "sits", "stands");
    private static final int[] UNDER = {-1, 0, 0, 1, 2, 0};

    private static final class Hose {
        int kind, a, shade, lasts, worn, angle;
        SortedSet<Integer> open = new TreeSet<>();
        Map<Integer, Integer> dabs = new LinkedHashMap<>();

        Hose copy() {
            Hose copy = new Hose();
            copy.kind = kind;
            copy.a = a;
            copy.shade = shade;
            copy.lasts = lasts;
            copy.worn = worn;
            copy.angle = angle;
            copy.open.addAll(open);
            copy.dabs.putAll(dabs);
            return copy;
        }

        int low() {
            return open.isEmpty() ? -9 : open.first();
        }

        int high() {
            return open.isEmpty() ? -9 : open.last();
        }
    }

    private static final class State {
        int[] laws = new int[8];
        List<Hose> hoses = new ArrayList<>();
        Integer[] feet = new Integer[2];
        List<List<int[]>> ways = List.of(new ArrayList<>(), new ArrayList<>());
        int z = 1;

        State() {
            for (int i = 0; i < 8; i++) {
                laws[i] = LAWS[i][2];
            }
        }

        State copy() {
            State copy = new State();
            copy.laws = laws.clone();
            hoses.forEach(hose -> copy.hoses.add(hose.copy()));
            copy.feet = feet.clone();
            copy.ways.get(0).addAll(ways.get(0));
            copy.ways.get(1).addAll(ways.get(1));
            copy.z = z;
            return copy;
        }

        Hose on(int foot) {
            return feet[foot] == null ? null : hoses.get(feet[foot]);
        }

        int together() {
            int sum = 0;
            for (int foot = 0; foot < 2; foot++) {
                sum += on(foot) == null ? 0 : on(foot).open.size();
            }
            return sum;
        }

        void move(int what) {
            for (int foot = 0; foot < 2; foot++) {
                if (on(foot) != null) {
                    Model.move(on(foot), what, laws);
                }
            }
        }

        void go(List<int[]> legs) {
            for (int[] leg : legs) {
                for (int i = 0; i < (leg[0] == 2 ? 1 : leg[1]); i++) {
                    move(leg[0]);
                }
            }
        }

        boolean good(int i) {
            Hose hose = hoses.get(i);
            return hose.worn < hose.lasts && hose.open.stream().noneMatch(r -> r >= laws[3] && r < laws[4]);
        }

        boolean pair(int i, int j) {
            return i != j && good(i) && good(j) && hoses.get(i).kind == hoses.get(j).kind
                && hoses.get(i).shade == hoses.get(j).shade;
        }

        int draw() {
            z = z * 1103515245 + 12345;
            return z >>> 16;
        }

        int seen(int side) {
            int seen = 0;
            for (int foot = 0; foot < 2; foot++) {
                if (on(foot) != null) {
                    int shown = List.of(List.of(0, 1, 2, 3), List.of(0, 3, 2, 1)).get(foot).get(on(foot).angle);
                    for (int rung : on(foot).open) {
                        seen += shown == side && rung >= laws[3] && rung < laws[4] ? 1 : 0;
                    }
                }
            }
            return seen;
        }

        boolean day() {
            for (int i = 0; i < hoses.size(); i++) {
                for (int j = i + 1; j < hoses.size(); j++) {
                    if (pair(i, j)) {
                        feet = new Integer[] {i, j};
                        if (draw() % 10 < laws[7]) {
                            int rung = draw() % 100;
                            if (on(0).open.isEmpty() && !on(0).dabs.containsKey(rung)) {
                                on(0).open.add(rung);
                            }
                        }
                        go(ways.get(0));
                        on(0).worn++;
                        on(1).worn++;
                        feet = new Integer[2];
                        return true;
                    }
                }
            }
            return false;
        }
    }

    private static int far(Hose hose, int plain) {
        switch (KINDS.get(hose.kind)) {
            case "sheer": case "mesh": return plain + plain;
            case "thick": return 0;
            case "lined": return plain > hose.a ? hose.a : plain;
            case "old": return plain == 0 ? 0 : plain + hose.a;
            default: return plain;
        }
    }

    private static void move(Hose hose, int what, int[] laws) {
        if (what == 3) {
            hose.dabs.replaceAll((rung, wet) -> wet == 0 ? 0 : wet - 1);
            return;
        }
        hose.dabs.values().removeIf(wet -> wet > 0);
        if (hose.open.isEmpty()) {
            return;
        }
        run(hose, -1, far(hose, what == 0 ? laws[0] : laws[1]));
        run(hose, 1, far(hose, what == 2 ? laws[1] : 0));
    }

    private static void run(Hose hose, int by, int rungs) {
        for (int i = 0; i < rungs; i++) {
            int next = by < 0 ? hose.low() - 1 : hose.high() + 1;
            if (next < 0 || next > 99 || hose.dabs.containsKey(next)) {
                return;
            }
            hose.open.add(next);
            if (hose.kind == 3 && next % 10 == 0) {
                return;
            }
        }
    }

    private State now = new State();
    private State kept = null;
    private List<Integer> tape = new ArrayList<>();
    private List<int[]> rows = new ArrayList<>();
    private final List<Object> sheets = new ArrayList<>(Arrays.asList(null, null, null, null));
    /** An Integer (a stocking's number), a row or null. */
    private final List<Object> shelves = new ArrayList<>(Arrays.asList(null, null, null, null));
    private final List<Integer> trace = new ArrayList<>();

    private static boolean in(int v, int least, int greatest) {
        return v >= least && v <= greatest;
    }

    private boolean none(int stocking) {
        return !in(stocking, 0, now.hoses.size() - 1);
    }

    public int feed(long eight, int n) {
        if (!in(n, 1, 8)) {
            return BAD;
        }
        if (tape.size() + n > 200) {
            return FULL;
        }
        for (int i = 0; i < n; i++) {
            tape.add((int) (eight & 255));
            eight >>= 8;
        }
        return tape.size();
    }

    private static final class Fault extends Exception {
        private static final long serialVersionUID = 1L;
        final int place;

        Fault(int place) {
            this.place = place;
        }
    }

    private String text;
    private List<int[]> tokens;
    private int token;

    public int drawer() {
        byte[] bytes = new byte[tape.size()];
        for (int i = 0; i < bytes.length; i++) {
            bytes[i] = (byte) (int) tape.get(i);
        }
        tape.clear();
        text = new String(bytes, StandardCharsets.ISO_8859_1);
        tokens = new ArrayList<>();
        Matcher matcher = Pattern.compile("[a-z]+|[0-9]+|[^ ]", Pattern.DOTALL).matcher(text);
        while (matcher.find()) {
            tokens.add(new int[] {matcher.start(), matcher.end()});
        }
        token = 0;
        State told = new State();
        try {
            while (token < tokens.size()) {
                clause(told);
            }
        } catch (Fault fault) {
            return -100 - fault.place;
        }
        told.z = now.z;
        now = told;
        rows.clear();
        return now.hoses.size();
    }

    private String peek() {
        return token < tokens.size() ? text.substring(tokens.get(token)[0], tokens.get(token)[1]) : "";
    }

    private Fault fault() {
        return new Fault(token < tokens.size() ? tokens.get(token)[0] : text.length());
    }

    private int oneOf(List<String> words) throws Fault {
        int found = words.indexOf(peek());
        if (found < 0) {
            throw fault();
        }
        token++;
        return found;
    }

    private int number(int least, int greatest) throws Fault {
        if (!peek().matches("[0-9]{1,2}") || !in(Integer.parseInt(peek()), least, greatest)) {
            throw fault();
        }
        int number = Integer.parseInt(peek());
        token++;
        return number;
    }

    private void clause(State told) throws Fault {
        List<String> heads = new ArrayList<>(KINDS);
        heads.addAll(List.of("left", "right", "step", "bend", "go", "cab"));
        if (KINDS.contains(peek()) && told.hoses.size() == 8) {
            throw fault();
        }
        int head = oneOf(heads);
        if (head < 6) {
            Hose hose = new Hose();
            hose.kind = head;
            hose.a = number(0, 9);
            oneOf(List.of("shade"));
            hose.shade = number(0, 3);
            oneOf(List.of("lasts"));
            hose.lasts = number(1, 30);
            if (peek().equals("ladder")) {
                token++;
                int low = number(0, 99);
                oneOf(List.of("to"));
                int high = number(low, 99);
                for (int rung = low; rung <= high; rung++) {
                    hose.open.add(rung);
                }
            }
            told.hoses.add(hose);
        } else if (head < 8) {
            int at = token;
            int stocking = number(0, told.hoses.size() - 1);
            if (Arrays.asList(told.feet).contains(stocking)) {
                token = at;
                throw fault();
            }
            told.feet[head - 6] = stocking;
        } else if (head < 10) {
            told.laws[head - 8] = number(LAWS[head - 8][0], LAWS[head - 8][1]);
        } else {
            List<int[]> way = told.ways.get(head - 10);
            way.clear();
            do {
                if (way.size() == 10) {
                    throw fault();
                }
                int what = oneOf(MOVES);
                way.add(new int[] {what, number(1, 60)});
            } while (oneOf(List.of(",", ";")) == 0);
            return;
        }
        oneOf(List.of(";"));
    }

    public int set(int law, int v) {
        if (!in(law, 0, 7) || !in(v, LAWS[law][0], LAWS[law][1])) {
            return BAD;
        }
        int was = now.laws[law];
        now.laws[law] = v;
        return was;
    }

    public int lawOf(int law) {
        return in(law, 0, 7) ? now.laws[law] : BAD;
    }

    public int stocking(int kind, int a, int shade, int lasts) {
        if (!in(kind, 0, 5) || !in(a, 0, 9) || !in(shade, 0, 3) || !in(lasts, 1, 30)) {
            return BAD;
        }
        if (now.hoses.size() == 8) {
            return FULL;
        }
        Hose hose = new Hose();
        hose.kind = kind;
        hose.a = a;
        hose.shade = shade;
        hose.lasts = lasts;
        now.hoses.add(hose);
        return now.hoses.size() - 1;
    }

    private int foot(int stocking) {
        int foot = Arrays.asList(now.feet).indexOf(stocking);
        return foot < 0 ? -9 : foot;
    }

    public int of(int stocking, int what) {
        if (none(stocking) || !in(what, 0, 9)) {
            return BAD;
        }
        Hose h = now.hoses.get(stocking);
        return new int[] {h.kind, h.a, h.shade, h.lasts, h.worn, h.angle, h.low(), h.high(), foot(stocking),
            h.open.size()}[what];
    }

    public int mind(int stocking, int kind, int a) {
        if (none(stocking) || !in(kind, 0, 5) || !in(a, 0, 9)) {
            return BAD;
        }
        Hose hose = now.hoses.get(stocking);
        int was = hose.kind;
        hose.kind = kind;
        hose.a = a;
        return was;
    }

    public int snag(int stocking, int rung) {
        if (none(stocking) || !in(rung, 0, 99)) {
            return BAD;
        }
        Hose hose = now.hoses.get(stocking);
        if (!hose.open.isEmpty() || hose.dabs.containsKey(rung)) {
            return STATE;
        }
        hose.open.add(rung);
        return 1;
    }

    public int turn(int stocking, int angle) {
        if (none(stocking) || !in(angle, 0, 3)) {
            return BAD;
        }
        int was = now.hoses.get(stocking).angle;
        now.hoses.get(stocking).angle = angle;
        return was;
    }

    private static int dab(Hose hose, int rung, int dry) {
        if (!in(rung, 0, 99)) {
            return BAD;
        }
        if (hose.open.contains(rung) || hose.dabs.containsKey(rung)) {
            return STATE;
        }
        if (hose.dabs.size() == 2) {
            return FULL;
        }
        hose.dabs.put(rung, dry);
        return hose.dabs.size();
    }

    public int dab(int stocking, int rung) {
        return none(stocking) ? BAD : dab(now.hoses.get(stocking), rung, now.laws[2]);
    }

    public int dabOf(int stocking, int rung) {
        if (none(stocking) || !in(rung, 0, 99)) {
            return BAD;
        }
        return now.hoses.get(stocking).dabs.getOrDefault(rung, NONE);
    }

    public int wash(int stocking) {
        if (none(stocking)) {
            return BAD;
        }
        if (foot(stocking) >= 0) {
            return STATE;
        }
        int had = now.hoses.get(stocking).dabs.size();
        now.hoses.get(stocking).dabs.clear();
        return had;
    }

    public int mend(int stocking) {
        if (none(stocking)) {
            return BAD;
        }
        if (foot(stocking) >= 0) {
            return STATE;
        }
        int open = now.hoses.get(stocking).open.size();
        now.hoses.get(stocking).open.clear();
        return open == 0 ? NONE : open * now.laws[5];
    }

    public int wear(int foot, int stocking) {
        if (!in(foot, 0, 1) || stocking != -1 && none(stocking)) {
            return BAD;
        }
        Integer coming = stocking == -1 ? null : (Integer) stocking;
        if (coming != null && coming.equals(now.feet[1 - foot])) {
            return STATE;
        }
        Integer was = now.feet[foot];
        now.feet[foot] = coming;
        return was == null ? -9 : was;
    }

    public int leg(int way, int what, int n) {
        if (!in(way, 0, 1) || !in(what, 0, 3) || !in(n, 1, 60)) {
            return BAD;
        }
        if (now.ways.get(way).size() == 10) {
            return FULL;
        }
        now.ways.get(way).add(new int[] {what, n});
        return now.ways.get(way).size();
    }

    private static int minutes(int[] leg) {
        double by = new double[] {20, 10, 1, 1}[leg[0]];
        return (int) Math.ceil(leg[1] / by);
    }

    public int legOf(int way, int i, int what) {
        if (!in(way, 0, 1) || !in(what, 0, 2)) {
            return BAD;
        }
        if (!in(i, 0, now.ways.get(way).size() - 1)) {
            return NONE;
        }
        int[] leg = now.ways.get(way).get(i);
        return what == 2 ? minutes(leg) : leg[what];
    }

    public int clear(int way) {
        if (!in(way, 0, 1)) {
            return BAD;
        }
        int had = now.ways.get(way).size();
        now.ways.get(way).clear();
        return had;
    }

    public int move(int what) {
        if (!in(what, 0, 3)) {
            return BAD;
        }
        now.move(what);
        return now.together();
    }

    public int go(int way) {
        if (!in(way, 0, 1)) {
            return BAD;
        }
        now.go(now.ways.get(way));
        return minutes(way);
    }

    public int minutes(int way) {
        return in(way, 0, 1) ? now.ways.get(way).stream().mapToInt(Model::minutes).sum() : BAD;
    }

    private State trial(int way, int from, int to) {
        State tried = now.copy();
        tried.go(tried.ways.get(way).subList(from, to));
        return tried;
    }

    private int legs(int way) {
        return now.ways.get(way).size();
    }

    public int open(int foot, int way, int n) {
        if (!in(foot, 0, 1) || !in(way, 0, 1) || !in(n, 0, legs(way))) {
            return BAD;
        }
        return now.on(foot) == null ? NONE : trial(way, 0, n).on(foot).open.size();
    }

    public int seen(int side, int way, int n) {
        if (!in(side, 0, 3) || !in(way, 0, 1) || !in(n, 0, legs(way))) {
            return BAD;
        }
        return trial(way, 0, n).seen(side);
    }

    public int when(int foot, int way, int rungs) {
        if (!in(foot, 0, 1) || !in(way, 0, 1) || !in(rungs, 1, 100)) {
            return BAD;
        }
        for (int n = 0; now.on(foot) != null && n <= legs(way); n++) {
            if (open(foot, way, n) >= rungs) {
                return n;
            }
        }
        return NONE;
    }

    public int dabbed(int foot, int way, int i) {
        if (!in(foot, 0, 1) || !in(way, 0, 1) || !in(i, 0, legs(way))) {
            return BAD;
        }
        if (now.on(foot) == null || now.on(foot).open.isEmpty()) {
            return NONE;
        }
        State tried = trial(way, 0, i);
        Hose hose = tried.on(foot);
        dab(hose, hose.low() - 1, now.laws[2]);
        dab(hose, hose.high() + 1, now.laws[2]);
        for (int minute = 0; minute < now.laws[2]; minute++) {
            tried.move(3);
        }
        tried.go(tried.ways.get(way).subList(i, legs(way)));
        return hose.open.size();
    }

    public int bestLeg(int foot, int way, int minutes) {
        if (!in(foot, 0, 1) || !in(way, 0, 1) || !in(minutes, 0, 999)) {
            return BAD;
        }
        if (now.on(foot) == null || now.on(foot).open.isEmpty() || minutes(way) + now.laws[2] > minutes) {
            return NONE;
        }
        List<Integer> ends = new ArrayList<>();
        for (int i = 0; i <= legs(way); i++) {
            ends.add(dabbed(foot, way, i));
        }
        return ends.indexOf(Collections.min(ends));
    }

    public int turned(int foot, int way, int sides) {
        if (!in(foot, 0, 1) || !in(way, 0, 1) || !in(sides, 1, 15)) {
            return BAD;
        }
        if (now.on(foot) == null) {
            return NONE;
        }
        List<Integer> seen = new ArrayList<>();
        for (int angle = 0; angle < 4; angle++) {
            State tried = trial(way, 0, legs(way));
            tried.on(foot).angle = angle;
            int sum = 0;
            for (int side = 0; side < 4; side++) {
                sum += (sides & 1 << side) != 0 ? tried.seen(side) : 0;
            }
            seen.add(sum);
        }
        return seen.indexOf(Collections.min(seen));
    }

    public int better() {
        int foot = trial(0, 0, legs(0)).together();
        int cab = trial(1, 0, legs(1)).together();
        return cab < foot || cab == foot && minutes(1) < minutes(0) ? 1 : 0;
    }

    public int good() {
        int set = 0;
        for (int i = 0; i < now.hoses.size(); i++) {
            set += now.good(i) ? 1 << i : 0;
        }
        return set;
    }

    public int pairs() {
        Map<Integer, Integer> of = new HashMap<>();
        for (int i = 0; i < now.hoses.size(); i++) {
            if (now.good(i)) {
                of.merge(now.hoses.get(i).kind * 4 + now.hoses.get(i).shade, 1, Integer::sum);
            }
        }
        return of.values().stream().mapToInt(many -> many / 2).sum();
    }

    public int mate(int stocking) {
        if (none(stocking)) {
            return BAD;
        }
        for (int j = 0; j < now.hoses.size(); j++) {
            if (now.pair(stocking, j)) {
                return j;
            }
        }
        return NONE;
    }

    public long costs(int stocking, int mended, int part) {
        if (none(stocking) || !in(mended, 0, 1) || !in(part, 0, 1)) {
            return BAD;
        }
        Hose hose = now.hoses.get(stocking);
        int left = hose.lasts - hose.worn;
        if (mended == 1 && left <= 0) {
            return NONE;
        }
        int above = mended == 1 ? now.laws[5] * hose.open.size() : now.laws[6];
        int below = mended == 1 ? left : hose.lasts;
        for (int by = below; by > 1; by--) {
            if (above % by == 0 && below % by == 0) {
                above /= by;
                below /= by;
            }
        }
        return part == 0 ? above : below;
    }

    public int worth(int stocking) {
        if (none(stocking)) {
            return BAD;
        }
        if (costs(stocking, 1, 0) < 0) {
            return NONE;
        }
        return costs(stocking, 1, 0) * costs(stocking, 0, 1) < costs(stocking, 0, 0) * costs(stocking, 1, 1) ? 1 : 0;
    }

    private boolean begun(int stocking, int way, int i, int rung) {
        State tried = new State();
        tried.laws = now.laws;
        Hose hose = new Hose();
        hose.kind = now.hoses.get(stocking).kind;
        hose.a = now.hoses.get(stocking).a;
        hose.open.add(rung);
        tried.hoses.add(hose);
        tried.feet[0] = 0;
        tried.go(now.ways.get(way).subList(i, legs(way)));
        return hose.open.equals(now.hoses.get(stocking).open);
    }

    public int since(int stocking, int way, int rung) {
        if (none(stocking) || !in(way, 0, 1) || !in(rung, 0, 99)) {
            return BAD;
        }
        int found = NONE;
        for (int i = 0; i <= legs(way); i++) {
            found = begun(stocking, way, i, rung) ? i : found;
        }
        return found;
    }

    public int from(int stocking, int way, int i) {
        if (none(stocking) || !in(way, 0, 1) || !in(i, 0, legs(way))) {
            return BAD;
        }
        int found = NONE;
        for (int rung = 99; rung >= 0; rung--) {
            found = begun(stocking, way, i, rung) ? rung : found;
        }
        return found;
    }

    public int seed(int v) {
        int was = now.z;
        now.z = v;
        return was;
    }

    public int day() {
        return now.day() ? 1 : 0;
    }

    public int month(int n) {
        if (!in(n, 1, 30)) {
            return BAD;
        }
        State tried = now.copy();
        int days = 0;
        for (int i = 0; i < n; i++) {
            days += tried.day() ? 1 : 0;
        }
        return days;
    }

    private List<int[]> rowsOf(int foot, int way) {
        List<int[]> due = new ArrayList<>();
        for (int i = 0; i < legs(way); i++) {
            Hose hose = trial(way, 0, i + 1).on(foot);
            due.add(new int[] {i, hose.low(), hose.high()});
        }
        return due;
    }

    public int prove(int foot, int way) {
        if (!in(foot, 0, 1) || !in(way, 0, 1)) {
            return BAD;
        }
        if (now.on(foot) == null) {
            return NONE;
        }
        rows = rowsOf(foot, way);
        return rows.size();
    }

    public int row(int i, int what) {
        return in(i, 0, rows.size() - 1) && in(what, 0, 2) ? rows.get(i)[what] : -9;
    }

    public int alterRow(int i, int what, int v) {
        int was = row(i, what);
        if (in(i, 0, rows.size() - 1) && in(what, 0, 2)) {
            rows.get(i)[what] = v;
        }
        return was;
    }

    public int judge(int foot, int way) {
        if (!in(foot, 0, 1) || !in(way, 0, 1)) {
            return BAD;
        }
        if (now.on(foot) == null) {
            return NONE;
        }
        List<int[]> due = rowsOf(foot, way);
        for (int i = 0; i < rows.size(); i++) {
            if (i >= due.size() || !Arrays.equals(rows.get(i), due.get(i))) {
                return i + 1;
            }
        }
        return 0;
    }

    private static int length(Object row) {
        return java.lang.reflect.Array.getLength(row);
    }

    private static final List<Class<?>> SORTS = List.of(byte[].class, short[].class, int[].class, long[].class);

    public int minds(int sheet, int i, int stocking, int n) {
        if (!in(sheet, 0, 3) || none(stocking) || !in(n, 0, 8) || stocking + n > now.hoses.size()) {
            return BAD;
        }
        Object row = sheets.get(sheet);
        if (row == null) {
            return -11;
        }
        if (!(row instanceof byte[])) {
            return -13;
        }
        if (!in(i, 0, length(row)) || i + n > length(row)) {
            return -12;
        }
        for (int j = 0; j < n; j++) {
            int a = ((byte[]) row)[i + j];
            now.hoses.get(stocking + j).a = a < 0 ? 0 : a > 9 ? 9 : a;
        }
        return n;
    }

    public int sheet(int sheet, int sort, int n) {
        if (!in(sheet, 0, 3) || !in(sort, -1, 3) || sort != -1 && n > 40) {
            return BAD;
        }
        if (sort != -1 && n < 0) {
            return -14;
        }
        sheets.set(sheet, sort == -1 ? null
            : java.lang.reflect.Array.newInstance(SORTS.get(sort).getComponentType(), n));
        return 1;
    }

    public int put(int sheet, int i, int v) {
        if (!in(sheet, 0, 3)) {
            return BAD;
        }
        Object row = sheets.get(sheet);
        if (row == null) {
            return -11;
        }
        if (!in(i, 0, length(row) - 1)) {
            return -12;
        }
        if (row instanceof byte[]) {
            ((byte[]) row)[i] = (byte) v;
        } else if (row instanceof short[]) {
            ((short[]) row)[i] = (short) v;
        } else if (row instanceof int[]) {
            ((int[]) row)[i] = v;
        } else {
            ((long[]) row)[i] = v;
        }
        return 1;
    }

    public int item(int sheet, int sort, int i) {
        if (!in(sheet, 0, 3) || !in(sort, 0, 3)) {
            return BAD;
        }
        Object row = sheets.get(sheet);
        if (row == null) {
            return -11;
        }
        if (!SORTS.get(sort).isInstance(row)) {
            return -13;
        }
        return in(i, 0, length(row) - 1) ? ((Number) java.lang.reflect.Array.get(row, i)).intValue() : -12;
    }

    public int shelf(int shelf, int what, int n) {
        if (!in(shelf, 0, 3) || !in(what, 0, 2) || what == 0 && none(n) || what == 1 && !in(n, 0, 3)) {
            return BAD;
        }
        shelves.set(shelf, what == 0 ? (Object) n : what == 1 ? sheets.get(n) : null);
        return 1;
    }

    public int taken(int shelf, int as) {
        if (!in(shelf, 0, 3) || !in(as, 0, 5) && !in(as, 10, 13)) {
            return BAD;
        }
        Object held = shelves.get(shelf);
        if (held == null || held instanceof Integer && none((Integer) held)) {
            return -11;
        }
        if (!(held instanceof Integer)) {
            return as >= 10 && SORTS.get(as - 10).isInstance(held) ? length(held) : -13;
        }
        for (int kind = now.hoses.get((Integer) held).kind; kind >= 0; kind = UNDER[kind]) {
            if (kind == as) {
                return (Integer) held;
            }
        }
        return -13;
    }

    private int selfKind, selfN, selfA;

    /** The body of an act (0 runs, 1 dries, 2 holds, 3 tells) that a kind has or comes to have from above. */
    private int body(int kind, int act, int x) {
        int up = UNDER[kind];
        switch (kind * 10 + act) {
            case 0: trace.add(10); return x + selfN;
            case 1: trace.add(11); return self(0, x) * 2;
            case 2: trace.add(12); return x / (selfA - selfN);
            case 3: trace.add(13); return self(1, x) ^ selfA;
            case 11: trace.add(20); return body(up, 1, x) - selfA;
            case 20: trace.add(30); return body(up, 0, x) * 3;
            case 23: trace.add(31); return body(up, 3, x) + self(2, selfN);
            case 40: trace.add(40); return -body(up, 0, x);
            case 41: trace.add(41); return body(up, 1, x) + self(0, selfN);
            case 32: trace.add(50); return body(up, 2, x + 2) ^ 1;
            case 30: trace.add(51); return body(up, 0, x) - selfN;
            case 53: trace.add(60); return body(up, 3, x) * 2;
            case 52: trace.add(61); return body(up, 2, x) + self(0, selfA);
            default: return body(up, act, x);
        }
    }

    private int self(int act, int x) {
        return body(selfKind, act, x);
    }

    public int act(int shelf, int act, int x) {
        trace.clear();
        if (!in(shelf, 0, 3) || !in(act, 0, 3) || !(shelves.get(shelf) instanceof Integer)
                || none((Integer) shelves.get(shelf))) {
            return 0;
        }
        selfN = (Integer) shelves.get(shelf);
        selfKind = now.hoses.get(selfN).kind;
        selfA = now.hoses.get(selfN).a;
        try {
            return self(act, x);
        } catch (ArithmeticException byZero) {
            return -15;
        }
    }

    public int trace(int i) {
        return in(i, 0, Math.min(30, trace.size()) - 1) ? trace.get(i) : NONE;
    }

    public int many(int what) {
        switch (what) {
            case 0: return now.hoses.size();
            case 1: return legs(0) + legs(1);
            case 2: return (int) now.hoses.stream().filter(hose -> !hose.open.isEmpty()).count();
            case 3: return now.hoses.stream().mapToInt(hose -> hose.dabs.size()).sum();
            case 4: return rows.size();
            case 5: return tape.size();
            case 6: return Math.min(30, trace.size());
            default: return BAD;
        }
    }

    public int keep() {
        kept = now.copy();
        return 1;
    }

    public int again() {
        if (kept == null) {
            return NONE;
        }
        now = kept.copy();
        return now.hoses.size();
    }
}
