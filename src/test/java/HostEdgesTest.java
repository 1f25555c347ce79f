/**
 * The edges that the document names for promises 39 to 53: ROWS, SHEETS, SHELVES, ACTS with
 * numbers that wrap, THE TRACE, how many there are, and what is kept.
 */
public final class HostEdgesTest {
    private static final int BAD = -1, NONE = -3, NOTHING = -11, OUTSIDE = -12, OTHER = -13, BELOW = -14, PARTED = -15;
    private static final int LEAST = Integer.MIN_VALUE, GREATEST = Integer.MAX_VALUE;

    public static void main(String[] args) {
        prove();
        row();
        alterRow();
        judge();
        judgeRowsWithoutLegs();
        mindsNumbers();
        mindsRefusals();
        mindsHeld();
        sheetNumbers();
        sheetRefusals();
        put();
        item();
        shelf();
        shelfHolds();
        taken();
        takenByKinds();
        actRefusals();
        actsThatWrap();
        actsThatPart();
        trace();
        many();
        keep();
        again();
        Check.end("HostEdgesTest");
    }

    private static Edge.Making then(Edge.Making first, Edge.Making second) {
        return x -> {
            first.make(x);
            second.make(x);
        };
    }

    private static void prove() {
        Edge.onlyWithin("39: FEET 0 and 1", Edge.SOME, (x, foot) -> x.prove(foot, 0), 0, 1);
        Edge.onlyWithin("39: WAYS 0 and 1", Edge.SOME, (x, way) -> x.prove(0, way), 0, 1);
        Edge.still("39: NONE, nothing is on the FOOT", Edge.NEW, x -> x.prove(0, 0), NONE);
        Edge.Making off = then(Edge.SOME, x -> x.wear(1, -1));
        Edge.still("39: NONE, ROWS stay", off, x -> x.prove(1, 0), NONE);
        Edge.still("39: BAD ahead of NONE, WAY", off, x -> x.prove(1, 2), BAD);
        Edge.changes("39: ROWS alone", Edge.SOME, x -> x.prove(1, 0), 3, "row(");
        Edge.changes("39: ten at most", Edge.FULL, x -> x.prove(1, 1), 10, "row(");
        Edge.changes("39: without LEGS there are none then", then(Edge.SOME, x -> x.clear(0)), x -> x.prove(0, 0), 0,
            "row(", "many(4)");
        for (int i = 0; i < 10; i++) {
            int asked = i;
            Edge.due("39: LEG of each of ten", Edge.FULL, x -> x.row(asked, 0), i);
            Edge.due("39: -9 without a LADDER, LOW", Edge.FULL, x -> x.prove(1, 0) * 0 + x.row(asked, 1), -9);
            Edge.due("39: -9 without a LADDER, HIGH", Edge.FULL, x -> x.prove(1, 0) * 0 + x.row(asked, 2), -9);
        }
        Edge.due("39: fewer than there were", Edge.FULL, x -> x.clear(1) * 0 + x.leg(1, 3, 1) * 0 + x.prove(0, 1) * 0
            + x.row(1, 0), -9);
        Edge.due("39: LOW behind the LEG, RUNG 0", Edge.SOME, x -> x.row(0, 1), 0);
        Edge.due("39: HIGH behind the LEG", Edge.SOME, x -> x.row(2, 2), 45);
    }

    private static void row() {
        for (int i : Edge.beyond(0, 2)) {
            Edge.still("40: -9, there is none such: " + i, Edge.SOME, x -> x.row(i, 0), -9);
            Edge.still("40: -9, another what: " + i, Edge.SOME, x -> x.row(0, i), -9);
        }
        int[] due = {2, 0, 45};
        for (int what = 0; what < 3; what++) {
            int asked = what;
            Edge.still("40: the last one, what " + what, Edge.SOME, x -> x.row(2, asked), due[what]);
            Edge.still("40: none at all", Edge.NEW, x -> x.row(0, asked), -9);
        }
        Edge.still("40: the tenth", Edge.FULL, x -> x.row(9, 0), 9);
        Edge.still("40: no eleventh", Edge.FULL, x -> x.row(10, 0), -9);
    }

    private static void alterRow() {
        for (int i : Edge.beyond(0, 2)) {
            Edge.still("41: -9, there is none such: " + i, Edge.SOME, x -> x.alterRow(i, 0, 5), -9);
            Edge.still("41: -9, another what: " + i, Edge.SOME, x -> x.alterRow(0, i, 5), -9);
        }
        Edge.still("41: none at all", Edge.NEW, x -> x.alterRow(0, 0, 5), -9);
        int[] was = {2, 0, 45};
        for (int what = 0; what < 3; what++) {
            int asked = what;
            for (int v : new int[] {LEAST, -9, -1, 0, GREATEST}) {
                Edge.changes("41: it becomes any v alone, " + v, Edge.SOME, x -> x.alterRow(2, asked, v), was[what],
                    "row(2, " + what + ")");
                Edge.due("41: it becomes " + v, Edge.SOME, x -> x.alterRow(2, asked, v) * 0 + x.row(2, asked), v);
            }
        }
        Edge.due("41: the tenth", Edge.FULL, x -> x.alterRow(9, 0, 77), 9);
        Edge.still("41: no eleventh", Edge.FULL, x -> x.alterRow(10, 0, 77), -9);
    }

    private static void judge() {
        Edge.Making made = then(Edge.SOME, x -> x.alterRow(1, 1, 0));
        Edge.onlyWithin("42: FEET 0 and 1", Edge.SOME, (x, foot) -> x.judge(foot, 0), 0, 1);
        Edge.onlyWithin("42: WAYS 0 and 1", Edge.SOME, (x, way) -> x.judge(0, way), 0, 1);
        Edge.still("42: NONE, nothing is on the FOOT", Edge.NEW, x -> x.judge(0, 0), NONE);
        Edge.still("42: NONE with ROWS", then(Edge.SOME, x -> x.wear(1, -1)), x -> x.judge(1, 0), NONE);
        Edge.still("42: BAD ahead of NONE", Edge.NEW, x -> x.judge(0, 2), BAD);
        Edge.still("42: BAD ahead of NONE", Edge.NEW, x -> x.judge(2, 0), BAD);
        Edge.still("42: 0, also if there are none", Edge.NEW, x -> {
            x.stocking(0, 0, 0, 1);
            x.wear(0, 0);
            int judged = x.judge(0, 0);
            x.drawer();
            return judged;
        }, 0);
        Edge.still("42: all is right", made, x -> x.judge(0, 0), 0);
        Edge.still("42: the second, and 1 more", Edge.SOME, x -> x.judge(0, 0), 2);
        for (int i = 0; i < 3; i++) {
            for (int what = 0; what < 3; what++) {
                int told = i;
                int asked = what;
                for (int by = -1; by < 2; by += 2) {
                    int less = by;
                    Edge.due("42: ROW " + i + " is wrong by " + by + " in " + what, then(made, x ->
                        x.alterRow(told, asked, x.row(told, asked) + less)), x -> x.judge(0, 0), i + 1);
                }
            }
        }
        Edge.due("42: the first of two", then(made, x -> x.alterRow(2, 0, x.alterRow(1, 0, 5))), x -> x.judge(0, 0), 2);
        Edge.due("42: the tenth", then(Edge.FULL, x -> x.alterRow(9, 2, 5)), x -> x.judge(0, 0), 10);
        Edge.due("42: all ten are right", Edge.FULL, x -> x.judge(0, 0), 0);
        Edge.due("42: -9 without a LADDER", then(Edge.FULL, x -> x.prove(1, 0)), x -> x.judge(1, 0), 0);
        Edge.due("42: -9 with a LADDER", then(Edge.FULL, x -> x.prove(1, 0)), x -> x.judge(0, 0), 1);
    }

    private static void judgeRowsWithoutLegs() {
        Edge.Making two = x -> {
            Check.told(x, "plain 0 shade 0 lasts 9;left 0;go stands 1,stands 1;cab stands 1;");
            x.prove(0, 0);
        };
        Edge.due("3: a row for which there is no LEG is wrong", two, x -> x.judge(0, 1), 2);
        Edge.due("3: none has a LEG", then(two, x -> x.clear(1)), x -> x.judge(0, 1), 1);
        Edge.due("3: each has a LEG", then(two, x -> x.leg(1, 3, 9)), x -> x.judge(0, 1), 0);
        Edge.due("3: LEGS for which there is no row", then(two, x -> x.prove(0, 1)), x -> x.judge(0, 0), 0);
        Edge.due("42: no ROWS, two LEGS", x -> Check.told(x, "plain 0 shade 0 lasts 9;left 0;go stands 1,stands 1;"),
            x -> x.judge(0, 0), 0);
    }

    private static void mindsNumbers() {
        Edge.onlyWithin("43: SHEETS 0 to 3", Edge.SOME, (x, sheet) -> x.minds(sheet, 0, 0, 1), 0, 3);
        Edge.onlyWithin("43: the STOCKINGS that there are", Edge.SOME, (x, i) -> x.minds(0, 0, i, 0), 0, 3);
        Edge.range("43: n 0 to all STOCKINGS", Edge.SOME, (x, n) -> x.minds(0, 0, 0, n), 0, 0, 4, 4);
        Edge.range("43: n 0 to 8", Edge.FULL, (x, n) -> x.minds(0, 0, 0, n), 0, 0, 8, 8);
        Edge.range("43: n goes beyond the last one", Edge.SOME, (x, n) -> x.minds(0, 0, 3, n), 0, 0, 1, 1);
        Edge.still("43: none", Edge.NEW, x -> x.minds(0, 0, 0, 0), BAD);
        for (int n = 0; n <= 4; n++) {
            int many = n;
            for (int i : Edge.beyond(0, 6 - n)) {
                Edge.still("43: -12 for n " + n + " from " + i, Edge.SOME, x -> x.minds(0, i, 0, many), OUTSIDE);
            }
            Edge.due("43: the last ones, n " + n, Edge.SOME, x -> x.minds(0, 6 - many, 0, many), n);
        }
        Edge.still("43: i is how many items there are, for n 0", Edge.SOME, x -> x.minds(0, 6, 3, 0), 0);
        Edge.Making empty = then(Edge.SOME, x -> x.sheet(0, 0, 0));
        Edge.still("43: of an empty row, n 0", empty, x -> x.minds(0, 0, 0, 0), 0);
        Edge.still("43: of an empty row, i 1", empty, x -> x.minds(0, 1, 0, 0), OUTSIDE);
        Edge.still("43: of an empty row, n 1", empty, x -> x.minds(0, 0, 0, 1), OUTSIDE);
        Edge.due("43: the fortieth", then(Edge.FULL, x -> x.put(0, 39, 3)), x -> x.minds(0, 39, 7, 1) * 0 + x.of(7, 1), 3);
    }

    private static void mindsRefusals() {
        Edge.still("43: -11, missing", Edge.SOME, x -> x.minds(3, 0, 0, 1), NOTHING);
        Edge.still("43: -11 for n 0", Edge.SOME, x -> x.minds(3, 0, 0, 0), NOTHING);
        Edge.still("43: -11 ahead of -12", Edge.SOME, x -> x.minds(3, -1, 0, 1), NOTHING);
        Edge.still("43: BAD ahead of -11, n", Edge.SOME, x -> x.minds(3, 0, 0, 9), BAD);
        Edge.still("43: BAD ahead of -11, beyond the last one", Edge.SOME, x -> x.minds(3, 0, 3, 2), BAD);
        Edge.still("43: BAD ahead of -11, STOCKING", Edge.SOME, x -> x.minds(3, 0, 4, 0), BAD);
        for (int sort = 1; sort < 4; sort++) {
            Edge.Making made = then(Edge.FULL, x -> x.sheet(0, 0, 3));
            int sheet = sort;
            Edge.still("43: -13, of sort " + sort, made, x -> x.minds(sheet, 0, 0, 1), OTHER);
            Edge.still("43: -13 for n 0", made, x -> x.minds(sheet, 0, 0, 0), OTHER);
            Edge.still("43: -13 ahead of -12", made, x -> x.minds(sheet, 41, 0, 1), OTHER);
            Edge.still("43: BAD ahead of -13", made, x -> x.minds(sheet, 0, 0, -1), BAD);
        }
        Edge.still("43: BAD ahead of -12, n", Edge.SOME, x -> x.minds(0, -1, 0, -1), BAD);
        Edge.still("43: BAD ahead of -12, SHEET", Edge.SOME, x -> x.minds(4, -1, 0, 0), BAD);
        Edge.still("43: BAD ahead of -12, beyond the last one", Edge.SOME, x -> x.minds(0, 7, 0, 5), BAD);
        Edge.still("43: -12, and none of them is taken", then(Edge.SOME, x -> x.put(0, 5, 8)),
            x -> x.minds(0, 4, 0, 3), OUTSIDE);
    }

    private static void mindsHeld() {
        int[][] due = {{LEAST, 0}, {-128, 0}, {-1, 0}, {0, 0}, {1, 1}, {8, 8}, {9, 9}, {10, 9}, {127, 9}, {128, 0},
            {255, 0}, {256, 0}, {265, 9}, {GREATEST, 0}};
        for (int[] d : due) {
            Edge.due("43: held to 0 to 9, byte of " + d[0], then(Edge.SOME, x -> x.put(0, 5, d[0])),
                x -> x.minds(0, 5, 2, 1) * 0 + x.of(2, 1), d[1]);
        }
        Edge.changes("43: A alone, of so many", then(Edge.SOME, x -> x.put(0, 4, 7)), x -> x.minds(0, 4, 1, 2), 2,
            "of(1, 1)", "of(2, 1)");
        Edge.due("43: from i on, from one on", then(Edge.SOME, x -> x.put(0, 4, 7)), x -> x.minds(0, 4, 1, 2) * 0
            + 100 * x.of(1, 1) + 10 * x.of(2, 1) + x.of(3, 1), 709);
        Edge.still("43: n 0 changes nothing", Edge.SOME, x -> x.minds(0, 3, 0, 0), 0);
    }

    private static void sheetNumbers() {
        Edge.range("44: SHEETS 0 to 3", Edge.SOME, (x, sheet) -> x.sheet(sheet, 0, 1), 0, 1, 3, 1);
        Edge.range("44: SHEETS 0 to 3, missing", Edge.SOME, (x, sheet) -> x.sheet(sheet, -1, 0), 0, 1, 3, 1);
        Edge.range("44: sorts -1 to 3", Edge.SOME, (x, sort) -> x.sheet(0, sort, 1), -1, 1, 3, 1);
        for (int i = 0; i < 4; i++) {
            int sort = i;
            Edge.due("44: n 0", Edge.SOME, x -> x.sheet(0, sort, 0), 1);
            Edge.due("44: n 0, an empty row", Edge.SOME, x -> x.sheet(0, sort, 0) * 0 + x.item(0, sort, 0), OUTSIDE);
            Edge.due("44: n 40", Edge.SOME, x -> x.sheet(0, sort, 40), 1);
            Edge.due("44: n 40, the last", Edge.SOME, x -> x.sheet(0, sort, 40) * 0 + x.item(0, sort, 39), 0);
            Edge.due("44: n 40, no more", Edge.SOME, x -> x.sheet(0, sort, 40) * 0 + x.item(0, sort, 40), OUTSIDE);
            for (int n : Edge.beyond(0, 40)) {
                Edge.still("44: n above 40 is BAD, below 0 -14: " + n, Edge.SOME, x -> x.sheet(0, sort, n),
                    n < 0 ? BELOW : BAD);
                Edge.due("44: missing, n counts nothing: " + n, Edge.SOME, x -> x.sheet(0, -1, n), 1);
                Edge.due("44: missing then", Edge.SOME, x -> x.sheet(0, -1, n) * 0 + x.item(0, sort, 0), NOTHING);
            }
            for (int j = 0; j < 40; j++) {
                int item = j;
                Edge.due("44: all 0, in place of what was there", then(Edge.FULL, x -> {
                    x.put(1, item, 99);
                    x.sheet(1, sort, 40);
                }), x -> x.item(1, sort, item), 0);
            }
        }
        Edge.changes("44: that SHEET alone", Edge.SOME, x -> x.sheet(0, 1, 5), 1, "SHEET 0");
        Edge.changes("44: that SHEET alone, missing", Edge.SOME, x -> x.sheet(1, -1, 5), 1, "SHEET 1");
        Edge.still("44: missing as it was", Edge.SOME, x -> x.sheet(3, -1, 41), 1);
    }

    private static void sheetRefusals() {
        Edge.still("44: BAD ahead of -14, SHEET", Edge.SOME, x -> x.sheet(4, 0, -1), BAD);
        Edge.still("44: BAD ahead of -14, SHEET", Edge.SOME, x -> x.sheet(-1, 0, -1), BAD);
        Edge.still("44: BAD ahead of -14, sort", Edge.SOME, x -> x.sheet(0, 4, -1), BAD);
        Edge.still("44: BAD ahead of -14, sort", Edge.SOME, x -> x.sheet(0, -2, -1), BAD);
        Edge.still("44: no SHEET becomes missing", Edge.SOME, x -> x.sheet(4, -1, -1), BAD);
        Edge.still("44: -14 where it is missing", Edge.SOME, x -> x.sheet(3, 3, -1), BELOW);
    }

    private static void put() {
        Edge.onlyWithin("45: SHEETS 0 to 3", Edge.SOME, (x, sheet) -> x.put(sheet, 0, 1), 0, 3);
        Edge.due("45: the first", Edge.SOME, x -> x.put(0, 0, 5), 1);
        Edge.due("45: the last", Edge.SOME, x -> x.put(0, 5, 5), 1);
        Edge.due("45: the fortieth", Edge.SOME, x -> x.put(1, 39, 5), 1);
        for (int i : Edge.beyond(0, 5)) {
            Edge.still("45: -12 at " + i, Edge.SOME, x -> x.put(0, i, 5), OUTSIDE);
        }
        Edge.still("45: -12, no forty-first", Edge.SOME, x -> x.put(1, 40, 5), OUTSIDE);
        Edge.still("45: -12 of an empty row", Edge.SOME, x -> x.put(2, 0, 5), OUTSIDE);
        Edge.still("45: -11, missing", Edge.SOME, x -> x.put(3, 0, 5), NOTHING);
        Edge.still("45: -11 ahead of -12", Edge.SOME, x -> x.put(3, -1, 5), NOTHING);
        Edge.still("45: BAD ahead of -12", Edge.SOME, x -> x.put(4, -1, 5), BAD);
        Edge.still("45: BAD ahead of -11", Edge.NEW, x -> x.put(-1, 0, 5), BAD);
        Edge.changes("45: that item alone", Edge.SOME, x -> x.put(0, 5, 5), 1, "SHEET 0 at 5");
        int[] wild = {LEAST, -32769, -32768, -129, -128, -1, 0, 127, 128, 255, 256, 32767, 32768, 65535, 65536, GREATEST};
        for (int v : wild) {
            int[] narrowed = {(byte) v, (short) v, v, v};
            for (int i = 0; i < 4; i++) {
                int sort = i;
                Edge.due("45: narrowed to sort " + sort + ", " + v, Edge.FULL, x -> x.put(sort, 20, v) * 0
                    + x.item(sort, sort, 20), narrowed[sort]);
            }
        }
    }

    private static void item() {
        Edge.onlyWithin("46: SHEETS 0 to 3", Edge.SOME, (x, sheet) -> x.item(sheet, 0, 0), 0, 3);
        Edge.onlyWithin("46: sorts 0 to 3", Edge.SOME, (x, sort) -> x.item(0, sort, 0), 0, 3);
        Edge.asks("46: it changes nothing", Edge.SOME, x -> x.item(1, 3, 39));
        Edge.due("46: the last", Edge.SOME, x -> x.item(1, 3, 39), 77);
        Edge.due("46: the first", Edge.SOME, x -> x.item(1, 3, 0), 0);
        for (int i : Edge.beyond(0, 39)) {
            Edge.still("46: -12 at " + i, Edge.SOME, x -> x.item(1, 3, i), OUTSIDE);
            Edge.still("46: -13 ahead of -12", Edge.SOME, x -> x.item(1, 2, i), OTHER);
            Edge.still("46: -11 ahead of -12", Edge.SOME, x -> x.item(3, 2, i), NOTHING);
            Edge.still("46: BAD ahead of -12, sort", Edge.SOME, x -> x.item(1, 4, i), BAD);
            Edge.still("46: BAD ahead of -12, SHEET", Edge.SOME, x -> x.item(-1, 3, i), BAD);
        }
        Edge.still("46: -12 of an empty row", Edge.SOME, x -> x.item(2, 2, 0), OUTSIDE);
        Edge.still("46: BAD ahead of -11, sort -1", Edge.SOME, x -> x.item(3, -1, 0), BAD);
        Edge.still("46: BAD ahead of -11, sort 4", Edge.SOME, x -> x.item(3, 4, 0), BAD);
        Edge.still("46: BAD, no sort of an empty row", Edge.SOME, x -> x.item(2, -1, 0), BAD);
        for (int sheet = 0; sheet < 4; sheet++) {
            for (int sort = 0; sort < 4; sort++) {
                int asked = sheet;
                int taken = sort;
                Edge.due("46: sort " + sheet + " taken for " + sort, Edge.FULL, x -> x.item(asked, taken, asked),
                    sheet == sort ? -12 : OTHER);
            }
            for (int refusal : new int[] {-1, -2, -3, -4, -9, -11, -12, -13, -14, -15}) {
                int asked = sheet;
                Edge.due("46: an item may be as low as these, " + refusal, Edge.FULL, x -> x.put(asked, 0, refusal) * 0
                    + x.item(asked, asked, 0), refusal);
            }
        }
    }

    private static void shelf() {
        Edge.range("47: SHELVES 0 to 3, nothing", Edge.SOME, (x, shelf) -> x.shelf(shelf, 2, 0), 0, 1, 3, 1);
        Edge.range("47: SHELVES 0 to 3, a STOCKING", Edge.SOME, (x, shelf) -> x.shelf(shelf, 0, 0), 0, 1, 3, 1);
        Edge.range("47: SHELVES 0 to 3, a row", Edge.SOME, (x, shelf) -> x.shelf(shelf, 1, 0), 0, 1, 3, 1);
        Edge.range("47: what 0 to 2", Edge.SOME, (x, what) -> x.shelf(0, what, 0), 0, 1, 2, 1);
        Edge.range("47: the STOCKINGS that there are", Edge.SOME, (x, i) -> x.shelf(0, 0, i), 0, 1, 3, 1);
        Edge.range("47: of eight", Edge.FULL, (x, i) -> x.shelf(0, 0, i), 0, 1, 7, 1);
        Edge.range("47: SHEETS 0 to 3", Edge.SOME, (x, i) -> x.shelf(0, 1, i), 0, 1, 3, 1);
        Edge.still("47: BAD, no STOCKINGS at all", Edge.NEW, x -> x.shelf(0, 0, 0), BAD);
        Edge.still("47: nothing on none", Edge.NEW, x -> x.shelf(0, 2, 0), 1);
        Edge.still("47: a missing one on none", Edge.NEW, x -> x.shelf(0, 1, 0), 1);
        Edge.changes("47: that SHELF alone", Edge.SOME, x -> x.shelf(1, 0, 0), 1, "SHELF 1");
    }

    private static void shelfHolds() {
        Edge.due("47: a missing one: nothing, in place of a STOCKING", Edge.SOME, x -> x.shelf(0, 1, 3) * 0 + x.taken(0, 0),
            NOTHING);
        Edge.due("47: a missing one: nothing, in place of a row", Edge.SOME, x -> x.shelf(1, 1, 3) * 0 + x.taken(1, 10),
            NOTHING);
        Edge.due("47: nothing, in place of a STOCKING", Edge.SOME, x -> x.shelf(0, 2, 0) * 0 + x.taken(0, 0), NOTHING);
        Edge.due("47: nothing, in place of a row", Edge.SOME, x -> x.shelf(1, 2, 0) * 0 + x.taken(1, 10), NOTHING);
        Edge.due("47: an empty row is none the less", Edge.SOME, x -> x.shelf(3, 1, 2) * 0 + x.taken(3, 12), 0);
        Edge.due("47: a STOCKING in place of a row", Edge.SOME, x -> x.shelf(1, 0, 2) * 0 + x.taken(1, 5), 2);
        Edge.due("47: a row in place of a STOCKING", Edge.SOME, x -> x.shelf(0, 1, 1) * 0 + x.taken(0, 13), 40);
        // In SOME SHELF 0 holds STOCKING 3; one TEXT tells one STOCKING, the other four.
        Edge.Making fewer = then(Edge.SOME, x -> x.drawer());
        Edge.due("3: nothing, if there is no such one any more", fewer, x -> x.taken(0, 0), NOTHING);
        Edge.due("3: nothing to act then", fewer, x -> x.act(0, 0, 5), 0);
        Edge.due("3: the last that there is", then(fewer, x -> {
            x.stocking(0, 0, 0, 1);
            x.stocking(0, 0, 0, 1);
        }), x -> x.taken(0, 0), NOTHING);
        Edge.due("3: by its number", then(fewer, x -> {
            x.stocking(0, 0, 0, 1);
            x.stocking(0, 0, 0, 1);
            x.stocking(5, 0, 0, 1);
        }), x -> x.taken(0, 5), 3);
        Edge.due("3: no such one behind again()", then(Edge.SOME, x -> x.again()), x -> x.taken(0, 0), NOTHING);
        Edge.due("3: a row stays behind again()", then(Edge.SOME, x -> x.again()), x -> x.taken(1, 10), 6);
    }

    private static void taken() {
        for (int shelf = 0; shelf < 4; shelf++) {
            int asked = shelf;
            for (int as : Edge.beyond(0, 13)) {
                Edge.still("48: BAD, no such as: " + as, Edge.SOME, x -> x.taken(asked, as), BAD);
            }
            for (int as = 6; as < 10; as++) {
                int told = as;
                Edge.still("48: BAD between 5 and 10: " + as, Edge.SOME, x -> x.taken(asked, told), BAD);
            }
        }
        Edge.onlyWithin("48: SHELVES 0 to 3", Edge.SOME, (x, shelf) -> x.taken(shelf, 0), 0, 3);
        Edge.still("48: BAD ahead of -11", Edge.NEW, x -> x.taken(4, 0), BAD);
        for (int as : new int[] {0, 5, 10, 13}) {
            Edge.still("48: -11, nothing", Edge.SOME, x -> x.taken(3, as), NOTHING);
            Edge.asks("48: it changes nothing", Edge.SOME, x -> x.taken(0, as));
        }
    }

    private static void takenByKinds() {
        // By KIND: the KINDS that it may be taken for.
        boolean[][] may = {{true, false, false, false, false, false}, {true, true, false, false, false, false},
            {true, false, true, false, false, false}, {true, true, false, true, false, false},
            {true, false, true, false, true, false}, {true, false, false, false, false, true}};
        for (int kind = 0; kind < 6; kind++) {
            int told = kind;
            Edge.Making held = then(Edge.SOME, x -> x.mind(3, told, 0));
            for (int as = 0; as < 6; as++) {
                int asked = as;
                Edge.still("48: KIND " + kind + " as " + as, held, x -> x.taken(0, asked), may[kind][as] ? 3 : OTHER);
            }
            for (int as = 10; as < 14; as++) {
                int asked = as;
                Edge.still("48: a STOCKING as a row", held, x -> x.taken(0, asked), OTHER);
            }
        }
        for (int sort = 0; sort < 4; sort++) {
            int told = sort;
            Edge.Making held = then(Edge.SOME, x -> {
                x.sheet(3, told, 40);
                x.shelf(3, 1, 3);
            });
            for (int as = 0; as < 6; as++) {
                int asked = as;
                Edge.still("48: a row as a STOCKING", held, x -> x.taken(3, asked), OTHER);
            }
            for (int as = 10; as < 14; as++) {
                int asked = as;
                Edge.still("48: sort " + sort + " as " + as, held, x -> x.taken(3, asked), as - 10 == sort ? 40 : OTHER);
            }
        }
    }

    private static void actRefusals() {
        for (int i : Edge.beyond(0, 3)) {
            Edge.changes("49: no such SHELF, and no TRACE then: " + i, Edge.SOME, x -> x.act(i, 0, 5), 0, "trace(",
                "many(6)");
            Edge.due("49: no TRACE then", Edge.SOME, x -> x.act(i, 0, 5) + x.many(6), 0);
            Edge.due("49: no such act: " + i, Edge.SOME, x -> x.act(0, i, 5), 0);
            Edge.due("49: no TRACE then", Edge.SOME, x -> x.act(0, i, 5) + x.many(6), 0);
            Edge.due("49: no TRACE then", Edge.SOME, x -> x.act(0, i, 5) + x.trace(0), NONE);
        }
        for (int act = 0; act < 4; act++) {
            int told = act;
            Edge.due("49: nothing", Edge.SOME, x -> x.act(3, told, 5), 0);
            Edge.due("49: nothing, no TRACE then", Edge.SOME, x -> x.act(3, told, 5) + x.many(6), 0);
            Edge.due("49: a row", Edge.SOME, x -> x.act(1, told, 5), 0);
            Edge.due("49: a row, no TRACE then", Edge.SOME, x -> x.act(1, told, 5) + x.many(6), 0);
            Edge.changes("49: THE TRACE alone", Edge.FULL, x -> x.act(3, told, 5), new int[] {-27, -78, PARTED, PARTED}[act],
                "trace(", "many(6)");
        }
    }

    /** A STOCKING of a KIND with number n and A on SHELF 0. */
    private static Edge.Making thing(int kind, int n, int a) {
        return x -> {
            for (int i = 0; i <= n; i++) {
                x.stocking(kind, a, 0, 1);
            }
            x.shelf(0, 0, n);
        };
    }

    private static void actsThatWrap() {
        // Written out as the document has them, in ints that wrap.
        for (int x : new int[] {LEAST, LEAST + 1, -2, -1, 0, 1, GREATEST - 1, GREATEST, 1 << 30, -(1 << 30), 715827883}) {
            int n = 7;
            int a = 5;
            int runs = x + n;
            Edge.due("10 wraps", thing(0, n, a), y -> y.act(0, 0, x), runs);
            Edge.due("11 wraps", thing(0, n, a), y -> y.act(0, 1, x), runs * 2);
            Edge.due("12, cut towards 0", thing(0, n, a), y -> y.act(0, 2, x), x / -2);
            Edge.due("13 wraps", thing(0, n, a), y -> y.act(0, 3, x), runs * 2 ^ a);
            Edge.due("20 wraps", thing(1, n, a), y -> y.act(0, 1, x), runs * 2 - a);
            Edge.due("30 wraps", thing(2, n, a), y -> y.act(0, 0, x), runs * 3);
            Edge.due("31 wraps", thing(2, n, a), y -> y.act(0, 3, x), (runs * 3 * 2 ^ a) + n / -2);
            Edge.due("40 wraps", thing(4, n, a), y -> y.act(0, 0, x), 0 - runs * 3);
            Edge.due("41 wraps", thing(4, n, a), y -> y.act(0, 1, x), (0 - runs * 3) * 2 - 42);
            Edge.due("50 wraps", thing(3, n, a), y -> y.act(0, 2, x), (x + 2) / -2 ^ 1);
            Edge.due("51 wraps", thing(3, n, a), y -> y.act(0, 0, x), x);
            Edge.due("60 wraps", thing(5, n, a), y -> y.act(0, 3, x), (runs * 2 ^ a) * 2);
            Edge.due("61 wraps", thing(5, n, a), y -> y.act(0, 2, x), x / -2 + 12);
            Edge.due("the rest away, by 1", thing(0, 4, 5), y -> y.act(0, 2, x), x);
            Edge.due("the least by -1 wraps", thing(0, 6, 5), y -> y.act(0, 2, x), 0 - x);
            Edge.due("by the greatest, 9 less 0", thing(0, 0, 9), y -> y.act(0, 2, x), x / 9);
            Edge.due("by the least, 0 less 7", thing(0, 7, 0), y -> y.act(0, 2, x), x / -7);
        }
        int[][] cut = {{-3, 1}, {-2, 1}, {-1, 0}, {1, 0}, {2, -1}, {3, -1}};
        for (int[] c : cut) {
            Edge.due("quotients are cut towards 0, " + c[0] + " by -2", thing(0, 2, 0), y -> y.act(0, 2, c[0]), c[1]);
            Edge.due("quotients are cut towards 0, " + c[0] + " by 2", thing(0, 0, 2), y -> y.act(0, 2, c[0]), -c[1]);
        }
    }

    private static void actsThatPart() {
        for (int n = 0; n < 8; n++) {
            int a = n;
            for (int x : new int[] {LEAST, -2, 0, 15, GREATEST}) {
                Edge.due("-15 if these are the same, " + n, thing(0, a, a), y -> y.act(0, 2, x), PARTED);
                Edge.due("-15 of a thick one's tells", thing(2, a, a), y -> y.act(0, 3, x), PARTED);
                Edge.due("-15 of a mesh one's holds", thing(3, a, a), y -> y.act(0, 2, x), PARTED);
                Edge.due("-15 of a lined one's tells", thing(4, a, a), y -> y.act(0, 3, x), PARTED);
                Edge.due("-15 of an old one's holds", thing(5, a, a), y -> y.act(0, 2, x), PARTED);
            }
        }
        for (int act : new int[] {0, 1, 3}) {
            Edge.due("not parted, where 12 doesn't run", thing(0, 3, 3), y -> y.act(0, act, 1), new int[] {4, 8, 0, 8 ^ 3}[act]);
        }
        Edge.due("then another one isn't", then(thing(0, 3, 3), y -> y.act(0, 2, 1)), y -> y.act(0, 0, 1), 4);
        traced("-15: the body that parts has begun", thing(0, 2, 2), 2, 12);
        traced("-15: no body behind it", thing(5, 2, 2), 2, 61, 12);
        traced("-15: those ahead of it", thing(2, 2, 2), 3, 31, 13, 11, 30, 10, 12);
    }

    private static void traced(String sentence, Edge.Making made, int act, int... bodies) {
        Edge.Making acted = then(made, y -> y.act(0, act, 6));
        for (int i = 0; i < bodies.length; i++) {
            int asked = i;
            Edge.due("3: THE TRACE, " + sentence + ", body " + i, acted, y -> y.trace(asked), bodies[i]);
        }
        for (int i : Edge.beyond(0, bodies.length - 1)) {
            Edge.due("50: NONE: " + sentence, acted, y -> y.trace(i), NONE);
        }
        Edge.due("51: bodies of THE TRACE: " + sentence, acted, y -> y.many(6), bodies.length);
    }

    private static void trace() {
        // By KIND and ACT: the bodies, as they begin, left first.
        int[][][] bodies = {{{10}, {11, 10}, {12}, {13, 11, 10}}, {{10}, {20, 11, 10}, {12}, {13, 20, 11, 10}},
            {{30, 10}, {11, 30, 10}, {12}, {31, 13, 11, 30, 10, 12}},
            {{51, 10}, {20, 11, 51, 10}, {50, 12}, {13, 20, 11, 51, 10}},
            {{40, 30, 10}, {41, 11, 40, 30, 10, 40, 30, 10}, {12}, {31, 13, 41, 11, 40, 30, 10, 40, 30, 10, 12}},
            {{10}, {11, 10}, {61, 12, 10}, {60, 13, 11, 10}}};
        for (int kind = 0; kind < 6; kind++) {
            for (int act = 0; act < 4; act++) {
                traced("KIND " + kind + ", ACT " + act, thing(kind, 1, 2), act, bodies[kind][act]);
            }
        }
        traced("of the latest act() alone", then(thing(4, 1, 2), y -> y.act(0, 3, 5)), 2, 12);
        Edge.still("50: NONE, no act() yet", Edge.NEW, x -> x.trace(0), NONE);
        for (int i : Edge.beyond(0, 10)) {
            Edge.still("50: NONE: " + i, Edge.FULL, x -> x.trace(i), NONE);
        }
        Edge.still("50: the first", Edge.FULL, x -> x.trace(0), 31);
        Edge.still("50: the last", Edge.FULL, x -> x.trace(10), 12);
    }

    private static void many() {
        Edge.onlyWithin("51: what 0 to 6", Edge.NEW, (x, what) -> x.many(what), 0, 6);
        Edge.onlyWithin("51: what 0 to 6", Edge.FULL, (x, what) -> x.many(what), 0, 6);
        int[] full = {8, 20, 2, 16, 10, 200, 11};
        int[] some = {4, 6, 2, 3, 3, 24, 5};
        for (int what = 0; what < 7; what++) {
            int asked = what;
            Edge.still("51: none, what " + what, Edge.NEW, x -> x.many(asked), 0);
            Edge.still("51: some, what " + what, Edge.SOME, x -> x.many(asked), some[what]);
            Edge.still("51: as many as may be, what " + what, Edge.FULL, x -> x.many(asked), full[what]);
        }
        Edge.due("51: LADDERS of eight", then(Edge.FULL, x -> {
            for (int i = 1; i < 7; i++) {
                x.snag(i, 50);
            }
        }), x -> x.many(2), 8);
    }

    private static void keep() {
        Edge.changes("52: nothing is touched by it", Edge.SOME, x -> x.keep(), 1, "again()", "kept: ");
        Edge.changes("52: of a new object", Edge.NEW, x -> x.keep(), 1, "again()");
        Edge.due("52: the latest", then(Edge.SOME, x -> x.keep()), x -> x.again(), 4);
        Edge.due("52: also of a new object", Edge.NEW, x -> x.keep() * 0 + x.again(), 0);
        Edge.still("52: as it is kept already", Edge.FULL, x -> x.keep(), 1);
    }

    private static void again() {
        Edge.still("53: NONE, nothing is kept", Edge.NEW, x -> x.again(), NONE);
        Edge.still("53: NONE, nothing is kept of a drawer", x -> Check.told(x, "old 1 shade 2 lasts 3;left 0;"),
            x -> x.again(), NONE);
        Edge.changes("53: THE TAPE, ROWS, SHEETS, THE TRACE stay; what is kept stays", Edge.SOME, x -> x.again(), 3, "of(",
            "lawOf(", "legOf(", "dabOf(", "many(0", "many(1", "many(2", "many(3", "z", "told: z", "SHELF 0", "SHELF 2");
        Edge.Making back = then(Edge.SOME, x -> x.again());
        Edge.due("53: LAWS are as they were kept", back, x -> x.lawOf(2), 2);
        Edge.due("53: DABS are", back, x -> x.dabOf(0, 40), NONE);
        Edge.due("53: how long they are WET is", then(Edge.SOME, x -> {
            x.move(3);
            x.again();
        }), x -> x.dabOf(0, 20), 2);
        Edge.due("53: ANGLES are", back, x -> x.of(0, 5), 0);
        Edge.due("53: LEGS are", back, x -> x.legOf(1, 2, 0), NONE);
        Edge.due("53: FEET are", then(Edge.SOME, x -> {
            x.wear(0, 3);
            x.again();
        }), x -> x.of(0, 8), 0);
        Edge.Making wornThen = x -> {
            Check.told(x, "plain 0 shade 0 lasts 9;plain 0 shade 0 lasts 9;");
            x.set(7, 0);
            x.day();
            x.keep();
            x.day();
            x.again();
        };
        Edge.due("53: WORN is", wornThen, x -> 10 * x.of(0, 4) + x.of(1, 4), 11);
        Edge.due("53: z is, behind a DAY", wornThen, x -> x.seed(0), 1103527590);
        Edge.due("53: z is", back, x -> x.seed(0), -5);
        Edge.due("53: it stays kept: again behind again()", back, x -> x.again(), 3);
        Edge.due("53: it stays kept, whatever comes", then(back, x -> {
            x.go(0);
            x.mend(2);
            x.stocking(0, 0, 0, 1);
            x.again();
        }), x -> x.of(0, 6), 30);
        Edge.due("53: of eight, behind none", then(Edge.FULL, x -> {
            x.drawer();
            x.drawer();
        }), x -> x.again(), 8);
    }
}
