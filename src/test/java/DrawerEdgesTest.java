/**
 * The edges that the document names for promises 1 and 4 to 18 and for what stands under 1 in
 * Terms: the least and the greatest, empty and full, each refusal, and which of several is told.
 */
public final class DrawerEdgesTest {
    private static final int BAD = -1, FULL = -2, NONE = -3, STATE = -4;
    private static final int LEAST = Integer.MIN_VALUE, GREATEST = Integer.MAX_VALUE;

    private static final int[] FIRST_LAWS = {3, 10, 2, 8, 60, 2, 190, 2};
    private static final int[] LEAST_LAWS = {0, 0, 1, 0, 31, 0, 1, 0};
    private static final int[] GREATEST_LAWS = {9, 20, 5, 30, 100, 99, 999, 10};

    public static void main(String[] args) {
        constants();
        newObject();
        laws();
        stockingNumbers();
        eightStockings();
        of();
        mind();
        snag();
        turn();
        dab();
        dabOf();
        wash();
        mend();
        wear();
        leg();
        tenLegs();
        legOf();
        clear();
        Check.end("DrawerEdgesTest");
    }

    private static void constants() {
        Check.due("BAD (-1)", NylonLadder.BAD, -1);
        Check.due("FULL (-2)", NylonLadder.FULL, -2);
        Check.due("NONE (-3)", NylonLadder.NONE, -3);
        Check.due("STATE (-4)", NylonLadder.STATE, -4);
    }

    private static void newObject() {
        Edge.due("1: no STOCKINGS", Edge.NEW, x -> x.many(0), 0);
        Edge.due("1: no LEGS", Edge.NEW, x -> x.many(1), 0);
        Edge.due("1: nothing is kept", Edge.NEW, x -> x.again(), NONE);
        Edge.due("z is 1 at first", Edge.NEW, x -> x.seed(9), 1);
        for (int what = 2; what < 7; what++) {
            int asked = what;
            Edge.due("1: nothing else, many(" + what + ")", Edge.NEW, x -> x.many(asked), 0);
        }
        for (int foot = 0; foot < 2; foot++) {
            int asked = foot;
            Edge.due("1: nothing on FOOT " + foot, Edge.NEW, x -> x.wear(asked, -1), -9);
        }
        for (int i = 0; i < 4; i++) {
            int asked = i;
            Edge.due("SHEETS are missing at first", Edge.NEW, x -> x.item(asked, 0, 0), -11);
            Edge.due("SHELVES hold nothing at first", Edge.NEW, x -> x.taken(asked, 0), -11);
            Edge.due("SHELVES hold nothing at first, with STOCKINGS", x -> {
                for (int j = 0; j < 8; j++) {
                    x.stocking(0, 0, 0, 1);
                }
            }, x -> x.taken(asked, 0), -11);
        }
    }

    private static void laws() {
        for (int i = 0; i < 8; i++) {
            int law = i;
            Edge.due("LAW " + law + " at first", Edge.NEW, x -> x.lawOf(law), FIRST_LAWS[law]);
            Edge.range("4: LAW " + law + " is least and greatest", Edge.NEW, (x, v) -> x.set(law, v),
                LEAST_LAWS[law], FIRST_LAWS[law], GREATEST_LAWS[law], FIRST_LAWS[law]);
            for (int v : new int[] {LEAST_LAWS[law], GREATEST_LAWS[law]}) {
                Edge.changes("4: LAW " + law + " becomes " + v + " alone", Edge.NEW, x -> x.set(law, v),
                    FIRST_LAWS[law], "lawOf(" + law + ")");
                Edge.due("5: LAW " + law + " is " + v, x -> x.set(law, v), x -> x.lawOf(law), v);
            }
        }
        Edge.onlyWithin("4: LAWS 0 to 7", Edge.SOME, (x, law) -> x.set(law, law == 4 ? 50 : 5), 0, 7);
        Edge.onlyWithin("5: LAWS 0 to 7", Edge.SOME, (x, law) -> x.lawOf(law), 0, 7);
        Edge.still("4: no LAW and no v", Edge.SOME, x -> x.set(8, -1), BAD);
    }

    private static void stockingNumbers() {
        Edge.range("6: KINDS 0 to 5", Edge.NEW, (x, v) -> x.stocking(v, 0, 0, 1), 0, 0, 5, 0);
        Edge.range("6: A 0 to 9", Edge.NEW, (x, v) -> x.stocking(0, v, 0, 1), 0, 0, 9, 0);
        Edge.range("6: SHADE 0 to 3", Edge.NEW, (x, v) -> x.stocking(0, 0, v, 1), 0, 0, 3, 0);
        Edge.range("6: LASTS 1 to 30", Edge.NEW, (x, v) -> x.stocking(0, 0, 0, v), 1, 0, 30, 0);
        int[][] told = {{0, 0, 0, 1}, {5, 9, 3, 30}};
        for (int[] t : told) {
            Edge.Making one = x -> x.stocking(t[0], t[1], t[2], t[3]);
            int[] due = {t[0], t[1], t[2], t[3], 0, 0, -9, -9, -9, 0};
            for (int what = 0; what < 10; what++) {
                int asked = what;
                Edge.due("7: of a new STOCKING, what " + what, one, x -> x.of(0, asked), due[what]);
            }
        }
    }

    private static void eightStockings() {
        NylonLadder x = new NylonLadder();
        for (int i = 0; i < 8; i++) {
            Check.due("6: numbered as they come", x.stocking(0, 0, 0, 1), i);
        }
        Check.due("6: eight at most", x.stocking(0, 0, 0, 1), FULL);
        Check.due("6: eight as before", x.many(0), 8);
        Edge.still("6: a ninth changes nothing", Edge.FULL, y -> y.stocking(0, 0, 0, 1), FULL);
        Edge.still("6: BAD ahead of FULL, KIND", Edge.FULL, y -> y.stocking(6, 0, 0, 1), BAD);
        Edge.still("6: BAD ahead of FULL, A", Edge.FULL, y -> y.stocking(0, 10, 0, 1), BAD);
        Edge.still("6: BAD ahead of FULL, SHADE", Edge.FULL, y -> y.stocking(0, 0, -1, 1), BAD);
        Edge.still("6: BAD ahead of FULL, LASTS", Edge.FULL, y -> y.stocking(0, 0, 0, 0), BAD);
        Edge.changes("6: a STOCKING more touches none of the others", Edge.SOME, y -> y.stocking(2, 2, 2, 2), 4,
            "of(4,", "dabOf(4,", "many(0)");
        // Numbers are used again behind drawer(); what came to the older ones is gone with them.
        Edge.Making again = y -> {
            Check.told(y, "plain 9 shade 3 lasts 30 ladder 0 to 7;plain 9 shade 3 lasts 30;");
            y.day();
            y.turn(0, 3);
            y.dab(0, 50);
            y.wear(0, 0);
            y.drawer();
            y.stocking(4, 5, 1, 7);
        };
        int[] due = {4, 5, 1, 7, 0, 0, -9, -9, -9, 0};
        for (int what = 0; what < 10; what++) {
            int asked = what;
            Edge.due("6: a STOCKING of an older one's number is new", again, y -> y.of(0, asked), due[what]);
        }
        Edge.due("6: it has no DABS", again, y -> y.many(3), 0);
    }

    private static void of() {
        Edge.onlyWithin("7: what 0 to 9", Edge.SOME, (x, what) -> x.of(0, what), 0, 9);
        Edge.onlyWithin("7: the STOCKINGS that there are", Edge.SOME, (x, i) -> x.of(i, 0), 0, 3);
        Edge.onlyWithin("7: of eight STOCKINGS", Edge.FULL, (x, i) -> x.of(i, 0), 0, 7);
        Edge.still("7: of none", Edge.NEW, x -> x.of(0, 0), BAD);
        for (int what = 0; what < 10; what++) {
            int asked = what;
            Edge.asks("7: it changes nothing", Edge.SOME, x -> x.of(0, asked));
        }
        Edge.Making all = x -> Check.told(x, "plain 0 shade 0 lasts 9 ladder 0 to 99;");
        Edge.due("7: LOW, RUNGS 0 to 99", all, x -> x.of(0, 6), 0);
        Edge.due("7: HIGH, RUNGS 0 to 99", all, x -> x.of(0, 7), 99);
        Edge.due("7: OPEN, all of them", all, x -> x.of(0, 9), 100);
        Edge.due("7: LOW without a LADDER", Edge.SOME, x -> x.of(2, 6), -9);
        Edge.due("7: HIGH without a LADDER", Edge.SOME, x -> x.of(2, 7), -9);
        Edge.due("7: OPEN without a LADDER", Edge.SOME, x -> x.of(2, 9), 0);
        Edge.due("7: on no FOOT", Edge.SOME, x -> x.of(2, 8), -9);
        Edge.due("7: on the left FOOT", Edge.SOME, x -> x.of(0, 8), 0);
        Edge.due("7: on the right FOOT", Edge.SOME, x -> x.of(1, 8), 1);
    }

    private static void mind() {
        Edge.range("8: KINDS 0 to 5", Edge.SOME, (x, v) -> x.mind(0, v, 4), 0, 1, 5, 1);
        Edge.range("8: A 0 to 9", Edge.SOME, (x, v) -> x.mind(0, 1, v), 0, 1, 9, 1);
        Edge.range("8: the STOCKINGS that there are", Edge.SOME, (x, i) -> x.mind(i, 0, 0), 0, 1, 3, 3);
        Edge.changes("8: KIND and A alone become others", Edge.SOME, x -> x.mind(0, 5, 9), 1, "of(0, 0)", "of(0, 1)",
            "SHELF");
        Edge.due("8: the KIND that it becomes", x -> {
            Edge.SOME.make(x);
            x.mind(0, 5, 9);
        }, x -> x.of(0, 0), 5);
        Edge.due("8: the A that it becomes", x -> {
            Edge.SOME.make(x);
            x.mind(0, 5, 9);
        }, x -> x.of(0, 1), 9);
        Edge.still("8: none", Edge.NEW, x -> x.mind(0, 0, 0), BAD);
        Edge.still("8: KIND is not as told, A is", Edge.SOME, x -> x.mind(0, 6, 0), BAD);
        Edge.still("8: A is not as told, KIND is", Edge.SOME, x -> x.mind(0, 2, 10), BAD);
    }

    private static void snag() {
        Edge.range("9: RUNGS 0 to 99", Edge.SOME, (x, rung) -> x.snag(3, rung), 0, 1, 99, 1);
        Edge.onlyWithin("9: the STOCKINGS that there are", Edge.SOME, (x, i) -> x.snag(i, 5), 0, 3);
        Edge.still("9: none", Edge.NEW, x -> x.snag(0, 0), BAD);
        for (int rung : new int[] {0, 99}) {
            Edge.changes("9: a LADDER of one RUNG begins", Edge.SOME, x -> x.snag(3, rung), 1, "of(3, 6)", "of(3, 7)",
                "of(3, 9)", "many(2)");
            Edge.Making snagged = x -> {
                Edge.SOME.make(x);
                x.snag(3, rung);
            };
            Edge.due("9: LOW", snagged, x -> x.of(3, 6), rung);
            Edge.due("9: HIGH", snagged, x -> x.of(3, 7), rung);
            Edge.due("9: OPEN", snagged, x -> x.of(3, 9), 1);
        }
        Edge.still("9: STATE, there is a LADDER", Edge.SOME, x -> x.snag(0, 90), STATE);
        Edge.still("9: STATE, there is a LADDER of that RUNG", Edge.SOME, x -> x.snag(0, 31), STATE);
        Edge.still("9: STATE, a DAB on that RUNG", Edge.SOME, x -> x.snag(2, 0), STATE);
        Edge.still("9: STATE, the second DAB", Edge.FULL, x -> x.snag(1, 91), STATE);
        Edge.due("9: beside a DAB", Edge.SOME, x -> x.snag(2, 1), 1);
        Edge.due("9: below the second DAB", Edge.FULL, x -> x.snag(1, 90), 1);
        Edge.due("9: above the second DAB", Edge.FULL, x -> x.snag(1, 92), 1);
        Edge.still("9: BAD ahead of STATE, no RUNG", Edge.SOME, x -> x.snag(0, 100), BAD);
        Edge.still("9: BAD ahead of STATE, no RUNG", Edge.SOME, x -> x.snag(0, -1), BAD);
        Edge.Making dry = x -> {
            Check.told(x, "plain 0 shade 0 lasts 9; left 0;");
            x.dab(0, 7);
            x.move(3);
            x.move(3);
        };
        Edge.due("9: STATE, a DAB that is dry, too", dry, x -> x.snag(0, 7), STATE);
    }

    private static void turn() {
        Edge.range("10: ANGLES 0 to 3", Edge.SOME, (x, v) -> x.turn(1, v), 0, 3, 3, 3);
        Edge.range("10: the STOCKINGS that there are", Edge.SOME, (x, i) -> x.turn(i, 1), 0, 2, 3, 0);
        Edge.still("10: none", Edge.NEW, x -> x.turn(0, 0), BAD);
        for (int angle = 0; angle < 4; angle++) {
            int told = angle;
            Edge.changes("10: ANGLE alone becomes another", Edge.SOME, x -> x.turn(0, told), 2, "of(0, 5)");
            Edge.due("10: the ANGLE that it becomes", x -> {
                Edge.SOME.make(x);
                x.turn(0, told);
            }, x -> x.of(0, 5), angle);
        }
    }

    private static void dab() {
        Edge.range("11: RUNGS 0 to 99", Edge.SOME, (x, rung) -> x.dab(3, rung), 0, 1, 99, 1);
        Edge.onlyWithin("11: the STOCKINGS that there are", Edge.SOME, (x, i) -> x.dab(i, 60), 0, 3);
        Edge.still("11: none", Edge.NEW, x -> x.dab(0, 0), BAD);
        Edge.changes("11: a DAB more, and that alone", Edge.SOME, x -> x.dab(2, 99), 2, "dabOf(2, 99)", "many(3)");
        for (int dry : new int[] {1, 5}) {
            Edge.due("11: WET for DRY minutes", x -> {
                Edge.SOME.make(x);
                x.set(2, dry);
                x.dab(3, 40);
                x.set(2, 3);
            }, x -> x.dabOf(3, 40), dry);
        }
        // In SOME the LADDER of STOCKING 0 is open from 30 to 33, and that of 1 from 98 to 99.
        Edge.due("11: next to LOW", Edge.SOME, x -> x.dab(1, 97), 1);
        Edge.still("11: STATE, on LOW", Edge.SOME, x -> x.dab(1, 98), STATE);
        Edge.still("11: STATE, on HIGH", Edge.SOME, x -> x.dab(1, 99), STATE);
        Edge.still("11: BAD, above HIGH 99", Edge.SOME, x -> x.dab(1, 100), BAD);
        Edge.still("11: STATE, the RUNG has one", Edge.SOME, x -> x.dab(2, 0), STATE);
        Edge.still("11: FULL, two at most", Edge.SOME, x -> x.dab(0, 21), FULL);
        Edge.still("11: FULL, beside the LADDER", Edge.SOME, x -> x.dab(0, 29), FULL);
        Edge.still("11: FULL, beside the LADDER", Edge.SOME, x -> x.dab(0, 34), FULL);
        Edge.still("11: STATE ahead of FULL, LOW", Edge.SOME, x -> x.dab(0, 30), STATE);
        Edge.still("11: STATE ahead of FULL, HIGH", Edge.SOME, x -> x.dab(0, 33), STATE);
        Edge.still("11: STATE ahead of FULL, the first DAB", Edge.SOME, x -> x.dab(0, 20), STATE);
        Edge.still("11: STATE ahead of FULL, the second DAB", Edge.SOME, x -> x.dab(0, 40), STATE);
        Edge.still("11: BAD ahead of FULL", Edge.SOME, x -> x.dab(0, 100), BAD);
        Edge.still("11: BAD ahead of FULL", Edge.SOME, x -> x.dab(0, -1), BAD);
    }

    private static void dabOf() {
        Edge.onlyWithin("12: RUNGS 0 to 99", Edge.SOME, (x, rung) -> x.dabOf(0, rung), 0, 99);
        Edge.onlyWithin("12: the STOCKINGS that there are", Edge.SOME, (x, i) -> x.dabOf(i, 20), 0, 3);
        Edge.still("12: none", Edge.NEW, x -> x.dabOf(0, 0), BAD);
        Edge.due("12: a DAB on RUNG 0", Edge.SOME, x -> x.dabOf(2, 0), 2);
        Edge.due("12: a DAB on RUNG 99", x -> {
            Edge.SOME.make(x);
            x.dab(3, 99);
        }, x -> x.dabOf(3, 99), 4);
        Edge.still("12: NONE, beside it", Edge.SOME, x -> x.dabOf(2, 1), NONE);
        Edge.still("12: NONE, on an open RUNG", Edge.SOME, x -> x.dabOf(0, 30), NONE);
        Edge.still("12: NONE, of another STOCKING", Edge.SOME, x -> x.dabOf(3, 20), NONE);
        Edge.asks("12: it changes nothing", Edge.SOME, x -> x.dabOf(0, 20));
    }

    private static void wash() {
        Edge.onlyWithin("13: the STOCKINGS that there are", Edge.SOME, (x, i) -> x.wash(i), 0, 3);
        Edge.still("13: none", Edge.NEW, x -> x.wash(0), BAD);
        Edge.still("13: STATE on the left FOOT", Edge.SOME, x -> x.wash(0), STATE);
        Edge.still("13: STATE on the right FOOT, without DABS", Edge.SOME, x -> x.wash(1), STATE);
        Edge.still("13: none are gone", Edge.SOME, x -> x.wash(3), 0);
        Edge.changes("13: one is gone", Edge.SOME, x -> x.wash(2), 1, "dabOf(2, 0)", "many(3)");
        Edge.changes("13: two are gone, of STOCKING 7", Edge.FULL, x -> x.wash(7), 2, "dabOf(7, 17)", "dabOf(7, 97)",
            "many(3)");
        Edge.due("13: then there is place for two", x -> {
            Edge.FULL.make(x);
            x.wash(7);
            x.dab(7, 17);
        }, x -> x.dab(7, 97), 2);
    }

    private static void mend() {
        Edge.onlyWithin("14: the STOCKINGS that there are", Edge.SOME, (x, i) -> x.mend(i), 0, 3);
        Edge.still("14: none", Edge.NEW, x -> x.mend(0), BAD);
        Edge.still("14: STATE on the left FOOT", Edge.SOME, x -> x.mend(0), STATE);
        Edge.still("14: STATE on the right FOOT", Edge.SOME, x -> x.mend(1), STATE);
        Edge.still("14: STATE ahead of NONE", Edge.FULL, x -> x.mend(6), STATE);
        Edge.still("14: NONE, there is none", Edge.SOME, x -> x.mend(3), NONE);
        Edge.changes("14: the LADDER is gone, and that alone", Edge.FULL, x -> x.mend(7), 2, "of(7, 6)", "of(7, 7)",
            "of(7, 9)", "many(2)");
        Edge.Making all = x -> Check.told(x, "plain 0 shade 0 lasts 9 ladder 0 to 99;");
        Edge.due("14: MEND times OPEN, 99 by 100", all, x -> x.set(5, 99) + x.mend(0), 2 + 9900);
        Edge.due("14: MEND 0", all, x -> x.set(5, 0) + x.mend(0), 2);
        Edge.due("14: then there is none", all, x -> x.mend(0) + x.mend(0), 200 + NONE);
        Edge.due("14: then another begins", all, x -> x.mend(0) + x.snag(0, 0), 201);
    }

    private static void wear() {
        Edge.range("15: FEET 0 and 1", Edge.SOME, (x, foot) -> x.wear(foot, 2), 0, 0, 1, 1);
        Edge.onlyWithin("15: -1 and the STOCKINGS that there are", Edge.SOME, (x, i) -> x.wear(0, i), -1, 3);
        Edge.onlyWithin("15: of eight", Edge.FULL, (x, i) -> x.wear(1, i), -1, 7);
        Edge.onlyWithin("15: of none", Edge.NEW, (x, i) -> x.wear(1, i), -1, -1);
        Edge.still("15: nothing comes where nothing is", Edge.NEW, x -> x.wear(0, -1), -9);
        Edge.still("15: what is on it comes on it", Edge.SOME, x -> x.wear(0, 0), 0);
        Edge.still("15: STATE, it is on the right one", Edge.SOME, x -> x.wear(0, 1), STATE);
        Edge.still("15: STATE, it is on the left one", Edge.SOME, x -> x.wear(1, 0), STATE);
        Edge.still("15: STATE with nothing on this one", x -> {
            Edge.SOME.make(x);
            x.wear(1, -1);
        }, x -> x.wear(1, 0), STATE);
        Edge.still("15: BAD ahead of STATE, no FOOT", Edge.SOME, x -> x.wear(2, 0), BAD);
        Edge.still("15: BAD ahead of STATE, no FOOT", Edge.SOME, x -> x.wear(-1, 1), BAD);
        Edge.still("15: no FOOT for none", Edge.SOME, x -> x.wear(2, -1), BAD);
        Edge.changes("15: it comes on, what was on comes off", Edge.SOME, x -> x.wear(0, 3), 0, "of(0, 8)", "of(3, 8)");
        Edge.changes("15: none", Edge.SOME, x -> x.wear(1, -1), 1, "of(1, 8)");
    }

    private static void leg() {
        Edge.range("16: WAYS 0 and 1", Edge.SOME, (x, way) -> x.leg(way, 0, 1), 0, 4, 1, 4);
        Edge.range("16: LEGS of 0 to 3", Edge.SOME, (x, what) -> x.leg(0, what, 1), 0, 4, 3, 4);
        for (int what = 0; what < 4; what++) {
            int told = what;
            Edge.range("16: N 1 to 60, of " + what, Edge.SOME, (x, n) -> x.leg(1, told, n), 1, 4, 60, 4);
            Edge.changes("16: a LEG more, and that alone", Edge.SOME, x -> x.leg(1, told, 60), 4, "legOf(1, 3, 0)",
                "legOf(1, 3, 1)", "many(1)");
        }
    }

    private static void tenLegs() {
        for (int i = 0; i < 2; i++) {
            int way = i;
            NylonLadder x = new NylonLadder();
            for (int n = 1; n <= 10; n++) {
                Check.due("16: how many WAY " + way + " has", x.leg(way, 3, n), n);
            }
            Check.due("16: ten LEGS at most", x.leg(way, 3, 1), FULL);
            Check.due("16: each: the other WAY has place", x.leg(1 - way, 3, 1), 1);
            Edge.still("16: FULL", Edge.FULL, y -> y.leg(way, 0, 1), FULL);
            Edge.still("16: BAD ahead of FULL, another LEG", Edge.FULL, y -> y.leg(way, 4, 1), BAD);
            Edge.still("16: BAD ahead of FULL, N 0", Edge.FULL, y -> y.leg(way, 0, 0), BAD);
            Edge.still("16: BAD ahead of FULL, N 61", Edge.FULL, y -> y.leg(way, 0, 61), BAD);
        }
    }

    private static void legOf() {
        Edge.onlyWithin("17: WAYS 0 and 1", Edge.SOME, (x, way) -> x.legOf(way, 0, 0), 0, 1);
        Edge.onlyWithin("17: what 0 to 2", Edge.SOME, (x, what) -> x.legOf(0, 0, what), 0, 2);
        for (int i : Edge.beyond(0, 2)) {
            Edge.still("17: NONE, no such LEG: " + i, Edge.SOME, x -> x.legOf(0, i, 0), NONE);
            Edge.still("17: BAD ahead of NONE, what", Edge.SOME, x -> x.legOf(0, i, 3), BAD);
            Edge.still("17: BAD ahead of NONE, WAY", Edge.SOME, x -> x.legOf(2, i, 0), BAD);
        }
        Edge.still("17: of a WAY without LEGS", Edge.NEW, x -> x.legOf(0, 0, 0), NONE);
        Edge.due("17: the tenth", Edge.FULL, x -> x.legOf(0, 9, 1), 10);
        Edge.still("17: no eleventh", Edge.FULL, x -> x.legOf(0, 10, 1), NONE);
        // {which, N, MINUTES}: of steps N by 20, of stairs N by 10, both upwards; else N.
        int[][] legs = {{0, 1, 1}, {0, 19, 1}, {0, 20, 1}, {0, 21, 2}, {0, 40, 2}, {0, 41, 3}, {0, 60, 3}, {1, 1, 1},
            {1, 9, 1}, {1, 10, 1}, {1, 11, 2}, {1, 50, 5}, {1, 51, 6}, {1, 60, 6}, {2, 1, 1}, {2, 60, 60}, {3, 1, 1},
            {3, 60, 60}};
        for (int[] leg : legs) {
            for (int what = 0; what < 3; what++) {
                int asked = what;
                Edge.due("17: of " + leg[1] + " of " + leg[0] + ", what " + what, x -> x.leg(1, leg[0], leg[1]),
                    x -> x.legOf(1, 0, asked), leg[what]);
            }
        }
    }

    private static void clear() {
        Edge.range("18: WAYS 0 and 1", Edge.SOME, (x, way) -> x.clear(way), 0, 3, 1, 3);
        Edge.still("18: it had none", Edge.NEW, x -> x.clear(0), 0);
        Edge.still("18: it had none", Edge.NEW, x -> x.clear(1), 0);
        for (int i = 0; i < 2; i++) {
            int way = i;
            Edge.changes("18: it had ten", Edge.FULL, x -> x.clear(way), 10, "legOf(" + way, "many(1)");
            Edge.due("18: none is left", Edge.FULL, x -> 100 * x.clear(way) + x.many(1), 1010);
            Edge.due("18: ten LEGS come again", x -> {
                Edge.FULL.make(x);
                x.clear(way);
                for (int n = 1; n < 10; n++) {
                    x.leg(way, 1, n);
                }
            }, x -> 100 * x.leg(way, 1, 10) + x.leg(way, 1, 11), 1000 + FULL);
        }
        Edge.still("18: no WAY", Edge.SOME, x -> x.clear(LEAST), BAD);
        Edge.still("18: no WAY", Edge.SOME, x -> x.clear(GREATEST), BAD);
    }
}
