/** Promises 1 and 4 to 18: a new object, laws, stockings, dabs, feet and legs. */
public final class DrawerTest {
    private static final int[] WILD = {-1, Integer.MIN_VALUE, Integer.MAX_VALUE};

    public static void main(String[] args) {
        isNew();
        hasLaws();
        takesStockings();
        mindsKinds();
        snagsAndTurns();
        dabs();
        washesAndMends();
        wears();
        hasLegs();
        Check.end("DrawerTest");
    }

    private static void isNew() {
        NylonLadder x = new NylonLadder();
        for (int what = 0; what < 7; what++) {
            Check.due("many(" + what + ")", x.many(what), 0);
        }
        Check.due("again", x.again(), -3);
        Check.due("minutes(0)", x.minutes(0), 0);
        Check.due("minutes(1)", x.minutes(1), 0);
        Check.due("z", x.seed(5), 1);
        Check.due("on the left", x.wear(0, -1), -9);
        Check.due("on the right", x.wear(1, -1), -9);
        for (int i = 0; i < 4; i++) {
            Check.due("SHEET " + i, x.item(i, 0, 0), -11);
            Check.due("SHELF " + i, x.taken(i, 0), -11);
        }
        Check.due("BAD", NylonLadder.BAD, -1);
        Check.due("FULL", NylonLadder.FULL, -2);
        Check.due("NONE", NylonLadder.NONE, -3);
        Check.due("STATE", NylonLadder.STATE, -4);
    }

    private static void hasLaws() {
        NylonLadder x = new NylonLadder();
        int[] first = {3, 10, 2, 8, 60, 2, 190, 2};
        int[] least = {0, 0, 1, 0, 31, 0, 1, 0};
        int[] greatest = {9, 20, 5, 30, 100, 99, 999, 10};
        for (int law = 0; law < 8; law++) {
            Check.due("lawOf(" + law + ")", x.lawOf(law), first[law]);
            Check.due("below the least", x.set(law, least[law] - 1), -1);
            Check.due("above the greatest", x.set(law, greatest[law] + 1), -1);
            Check.due("lowest int", x.set(law, Integer.MIN_VALUE), -1);
            Check.due("highest int", x.set(law, Integer.MAX_VALUE), -1);
            Check.due("the least", x.set(law, least[law]), first[law]);
            Check.due("the greatest", x.set(law, greatest[law]), least[law]);
            Check.due("lawOf(" + law + ")", x.lawOf(law), greatest[law]);
        }
        for (int law : new int[] {-1, 8, Integer.MIN_VALUE, Integer.MAX_VALUE}) {
            Check.due("set of no LAW", x.set(law, 5), -1);
            Check.due("lawOf no LAW", x.lawOf(law), -1);
        }
    }

    private static void takesStockings() {
        NylonLadder x = new NylonLadder();
        int[][] bad = {{6, 0, 0, 1}, {-1, 0, 0, 1}, {0, 10, 0, 1}, {0, -1, 0, 1}, {0, 0, 4, 1}, {0, 0, -1, 1},
            {0, 0, 0, 0}, {0, 0, 0, 31}, {Integer.MIN_VALUE, 0, 0, 1}, {0, 0, 0, Integer.MAX_VALUE}};
        for (int[] b : bad) {
            Check.due("a bad stocking", x.stocking(b[0], b[1], b[2], b[3]), -1);
        }
        Check.due("none came", x.many(0), 0);
        for (int i = 0; i < 8; i++) {
            Check.due("stocking " + i, x.stocking(i % 6, i + 1, i % 4, 23 + i), i);
        }
        Check.due("a ninth", x.stocking(0, 0, 0, 1), -2);
        Check.due("a bad ninth", x.stocking(6, 0, 0, 1), -1);
        Check.due("STOCKINGS", x.many(0), 8);
        for (int i = 0; i < 8; i++) {
            int[] due = {i % 6, i + 1, i % 4, 23 + i, 0, 0, -9, -9, -9, 0};
            for (int what = 0; what < 10; what++) {
                Check.due("of(" + i + ", " + what + ")", x.of(i, what), due[what]);
            }
        }
        Check.due("of another what", x.of(0, 10), -1);
        for (int wild : WILD) {
            Check.due("of another what", x.of(0, wild), -1);
            Check.due("of no STOCKING", x.of(wild, 0), -1);
        }
        Check.due("of no STOCKING", x.of(8, 0), -1);
        Check.due("of none", new NylonLadder().of(0, 0), -1);
    }

    private static void mindsKinds() {
        NylonLadder x = Check.of("plain 1 shade 2 lasts 3 ladder 4 to 5;");
        Check.due("mind", x.mind(0, 5, 9), 0);
        Check.due("mind the same", x.mind(0, 5, 9), 5);
        Check.due("KIND", x.of(0, 0), 5);
        Check.due("A", x.of(0, 1), 9);
        Check.due("SHADE", x.of(0, 2), 2);
        Check.due("HIGH", x.of(0, 7), 5);
        Check.due("mind no STOCKING", x.mind(1, 0, 0), -1);
        Check.due("mind no KIND", x.mind(0, 6, 0), -1);
        Check.due("mind no A", x.mind(0, 0, 10), -1);
        for (int wild : WILD) {
            Check.due("mind", x.mind(wild, 0, 0), -1);
            Check.due("mind", x.mind(0, wild, 0), -1);
            Check.due("mind", x.mind(0, 0, wild), -1);
        }
        Check.due("KIND", x.of(0, 0), 5);
    }

    private static void snagsAndTurns() {
        NylonLadder x = Check.of("plain 1 shade 2 lasts 3; plain 1 shade 2 lasts 3; plain 1 shade 2 lasts 3;");
        Check.due("snag no STOCKING", x.snag(3, 0), -1);
        Check.due("snag no RUNG", x.snag(0, 100), -1);
        for (int wild : WILD) {
            Check.due("snag", x.snag(wild, 0), -1);
            Check.due("snag", x.snag(0, wild), -1);
        }
        Check.due("snag", x.snag(0, 0), 1);
        Check.due("snag", x.snag(1, 99), 1);
        Check.due("LOW", x.of(0, 6), 0);
        Check.due("HIGH", x.of(0, 7), 0);
        Check.due("LOW", x.of(1, 6), 99);
        Check.due("OPEN", x.of(1, 9), 1);
        Check.due("LADDERS", x.many(2), 2);
        Check.due("there is a LADDER", x.snag(0, 50), -4);
        Check.due("BAD ahead of STATE", x.snag(0, 100), -1);
        Check.due("dab", x.dab(2, 50), 1);
        Check.due("there is a DAB", x.snag(2, 50), -4);
        Check.due("beside a DAB", x.snag(2, 51), 1);

        Check.due("turn", x.turn(0, 3), 0);
        Check.due("turn", x.turn(0, 3), 3);
        Check.due("turn", x.turn(0, 1), 3);
        Check.due("ANGLE", x.of(0, 5), 1);
        Check.due("turn to 4", x.turn(0, 4), -1);
        Check.due("turn no STOCKING", x.turn(3, 0), -1);
        for (int wild : WILD) {
            Check.due("turn", x.turn(wild, 0), -1);
            Check.due("turn", x.turn(0, wild), -1);
        }
    }

    private static void dabs() {
        NylonLadder x = Check.of("plain 1 shade 2 lasts 3 ladder 10 to 20; plain 0 shade 0 lasts 9; left 0;");
        Check.due("dab no STOCKING", x.dab(2, 0), -1);
        Check.due("dab no RUNG", x.dab(0, 100), -1);
        for (int wild : WILD) {
            Check.due("dab", x.dab(wild, 0), -1);
            Check.due("dab", x.dab(0, wild), -1);
            Check.due("dabOf", x.dabOf(wild, 0), -1);
            Check.due("dabOf", x.dabOf(0, wild), -1);
        }
        Check.due("dab on LOW", x.dab(0, 10), -4);
        Check.due("dab on HIGH", x.dab(0, 20), -4);
        Check.due("dab below", x.dab(0, 9), 1);
        Check.due("dab once more", x.dab(0, 9), -4);
        x.set(2, 5);
        Check.due("dab above", x.dab(0, 21), 2);
        Check.due("a third dab", x.dab(0, 50), -2);
        Check.due("STATE ahead of FULL", x.dab(0, 9), -4);
        Check.due("STATE ahead of FULL", x.dab(0, 15), -4);
        Check.due("BAD ahead of FULL", x.dab(0, 100), -1);
        Check.due("dabOf", x.dabOf(0, 9), 2);
        Check.due("dabOf", x.dabOf(0, 21), 5);
        Check.due("dabOf", x.dabOf(0, 22), -3);
        Check.due("dabOf", x.dabOf(0, 100), -1);
        Check.due("dabOf", x.dabOf(2, 0), -1);
        Check.due("dab on 0", x.dab(1, 0), 1);
        Check.due("dab on 99", x.dab(1, 99), 2);
        Check.due("DABS", x.many(3), 4);
        Check.due("stand", x.move(3), 11);
        Check.due("stand", x.move(3), 11);
        Check.due("stand", x.move(3), 11);
        Check.due("dry", x.dabOf(0, 9), 0);
        Check.due("wet", x.dabOf(0, 21), 2);
        Check.due("not on a FOOT", x.dabOf(1, 0), 5);
    }

    private static void washesAndMends() {
        NylonLadder x = Check.of("plain 1 shade 2 lasts 3 ladder 10 to 20; plain 0 shade 0 lasts 9; left 0; right 1;");
        x.dab(0, 30);
        Check.due("wash on a FOOT", x.wash(0), -4);
        Check.due("mend on a FOOT", x.mend(0), -4);
        Check.due("mend on the right FOOT", x.mend(1), -4);
        Check.due("wash on the right FOOT", x.wash(1), -4);
        x.wear(0, -1);
        x.wear(1, -1);
        Check.due("wash", x.wash(0), 1);
        Check.due("wash", x.wash(0), 0);
        Check.due("DABS", x.many(3), 0);
        x.set(5, 99);
        Check.due("mend", x.mend(0), 99 * 11);
        Check.due("mend", x.mend(0), -3);
        Check.due("mend", x.mend(1), -3);
        Check.due("LOW", x.of(0, 6), -9);
        Check.due("HIGH", x.of(0, 7), -9);
        Check.due("LADDERS", x.many(2), 0);
        for (int wild : new int[] {-1, 2, Integer.MIN_VALUE, Integer.MAX_VALUE}) {
            Check.due("wash", x.wash(wild), -1);
            Check.due("mend", x.mend(wild), -1);
        }
        x.set(5, 0);
        x.snag(0, 4);
        Check.due("mend for nothing", x.mend(0), 0);
    }

    private static void wears() {
        NylonLadder x = Check.of("plain 1 shade 2 lasts 3; plain 0 shade 0 lasts 9;");
        Check.due("wear", x.wear(0, 0), -9);
        Check.due("wear the same", x.wear(0, 0), 0);
        Check.due("FOOT", x.of(0, 8), 0);
        Check.due("on the other one", x.wear(1, 0), -4);
        Check.due("wear", x.wear(1, 1), -9);
        Check.due("on the other one", x.wear(0, 1), -4);
        Check.due("FOOT", x.of(1, 8), 1);
        Check.due("take off", x.wear(1, -1), 1);
        Check.due("take off", x.wear(1, -1), -9);
        Check.due("wear", x.wear(0, 1), 0);
        Check.due("FOOT", x.of(0, 8), -9);
        Check.due("no FOOT", x.wear(2, 0), -1);
        Check.due("no FOOT", x.wear(-1, 0), -1);
        Check.due("no FOOT", x.wear(2, -1), -1);
        Check.due("no STOCKING", x.wear(0, 2), -1);
        Check.due("no STOCKING", x.wear(0, -2), -1);
        Check.due("no STOCKING", x.wear(0, Integer.MIN_VALUE), -1);
        Check.due("no STOCKING", x.wear(0, Integer.MAX_VALUE), -1);
        Check.due("FOOT", x.of(1, 8), 0);
    }

    private static void hasLegs() {
        NylonLadder x = new NylonLadder();
        int[][] bad = {{2, 0, 1}, {-1, 0, 1}, {0, 4, 1}, {0, -1, 1}, {0, 0, 0}, {0, 0, 61}, {0, 0, Integer.MIN_VALUE}};
        for (int[] b : bad) {
            Check.due("a bad LEG", x.leg(b[0], b[1], b[2]), -1);
        }
        int[][] legs = {{0, 1, 1}, {0, 20, 1}, {0, 21, 2}, {0, 60, 3}, {1, 1, 1}, {1, 10, 1}, {1, 11, 2}, {1, 60, 6},
            {2, 60, 60}, {3, 59, 59}};
        for (int i = 0; i < 10; i++) {
            Check.due("leg", x.leg(1, legs[i][0], legs[i][1]), i + 1);
        }
        Check.due("an eleventh", x.leg(1, 0, 1), -2);
        Check.due("a bad eleventh", x.leg(1, 4, 1), -1);
        int sum = 0;
        for (int i = 0; i < 10; i++) {
            Check.due("legOf", x.legOf(1, i, 0), legs[i][0]);
            Check.due("legOf", x.legOf(1, i, 1), legs[i][1]);
            Check.due("legOf", x.legOf(1, i, 2), legs[i][2]);
            sum += legs[i][2];
        }
        Check.due("minutes", x.minutes(1), sum);
        Check.due("minutes", x.minutes(0), 0);
        Check.due("minutes", x.minutes(2), -1);
        Check.due("minutes", x.minutes(-1), -1);
        Check.due("no LEG", x.legOf(1, 10, 0), -3);
        Check.due("no LEG", x.legOf(1, -1, 0), -3);
        Check.due("no LEG", x.legOf(0, 0, 0), -3);
        Check.due("no WAY", x.legOf(2, 0, 0), -1);
        Check.due("no WAY", x.legOf(-1, 99, 0), -1);
        Check.due("another what", x.legOf(1, 0, 3), -1);
        Check.due("another what ahead of NONE", x.legOf(1, 10, -1), -1);
        Check.due("one for WAY 0", x.leg(0, 3, 60), 1);
        Check.due("LEGS of both", x.many(1), 11);
        Check.due("clear", x.clear(1), 10);
        Check.due("clear", x.clear(1), 0);
        Check.due("clear no WAY", x.clear(2), -1);
        Check.due("clear no WAY", x.clear(-1), -1);
        Check.due("LEGS of both", x.many(1), 1);
    }
}
