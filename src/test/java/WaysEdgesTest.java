/**
 * The edges that the document names for promises 19 to 28, for MOVES, DABS and SIDES, and for
 * TRIALS: how far a LADDER runs, what stops it, what is taken and refused, ties.
 */
public final class WaysEdgesTest {
    private static final int BAD = -1, NONE = -3;

    public static void main(String[] args) {
        plainOnes();
        sheerAndThickOnes();
        meshOnes();
        linedAndOldOnes();
        ends();
        dryDabs();
        wetDabs();
        standing();
        offFeet();
        move();
        go();
        minutes();
        open();
        seenNumbers();
        shoeAndHem();
        sides();
        when();
        dabbedNumbers();
        dabbedAtEnds();
        dabbedBesideDabs();
        bestLegNumbers();
        bestLegOfSeveral();
        turned();
        better();
        Check.end("WaysEdgesTest");
    }

    /** What one MOVE makes of the LADDER of the first STOCKING of a text, with dry DABS on some RUNGS. */
    private static void runs(String sentence, String text, int move, int low, int high, int... dry) {
        Edge.Making made = x -> {
            Check.told(x, text + "left 0;");
            for (int rung : dry) {
                x.dab(0, rung);
            }
            for (int i = 0; i < 5; i++) {
                x.move(3);
            }
        };
        Edge.due(sentence + ": OPEN, " + text, made, x -> x.move(move), high - low + 1);
        Edge.due(sentence + ": LOW, " + text, made, x -> x.move(move) * 0 + x.of(0, 6), low);
        Edge.due(sentence + ": HIGH, " + text, made, x -> x.move(move) * 0 + x.of(0, 7), high);
        Edge.due(sentence + ": dry DABS stay", made, x -> x.move(move) * 0 + x.many(3), dry.length);
    }

    private static String one(String kind, int a, int low, int high) {
        return kind + " " + a + " shade 0 lasts 9 ladder " + low + " to " + high + ";";
    }

    private static void plainOnes() {
        String at50 = one("plain", 9, 50, 50);
        runs("plain, a step, STEP 0", at50 + "step 0;", 0, 50, 50);
        runs("plain, a step, STEP 9", at50 + "step 9;", 0, 41, 50);
        runs("plain, a stair, BEND 0", at50 + "bend 0;", 1, 50, 50);
        runs("plain, a stair, BEND 20", at50 + "bend 20;", 1, 30, 50);
        runs("plain, a sit, BEND 0", at50 + "bend 0;", 2, 50, 50);
        runs("plain, a sit, BEND 20", at50 + "bend 20;", 2, 30, 70);
        runs("plain, a sit, STEP counts nothing", at50 + "step 9; bend 1;", 2, 49, 51);
        runs("plain, standing runs nothing", at50 + "step 9; bend 20;", 3, 50, 50);
    }

    private static void sheerAndThickOnes() {
        runs("sheer, a step: twice STEP 9", one("sheer", 9, 50, 50) + "step 9;", 0, 32, 50);
        runs("sheer, a stair: twice BEND 20", one("sheer", 9, 50, 50) + "bend 20;", 1, 10, 50);
        runs("sheer, a sit: twice BEND 20", one("sheer", 9, 50, 50) + "bend 20;", 2, 10, 90);
        runs("sheer, twice 0", one("sheer", 9, 50, 50) + "bend 0;", 2, 50, 50);
        for (int move = 0; move < 4; move++) {
            runs("thick: by none", one("thick", 9, 50, 51) + "step 9; bend 20;", move, 50, 51);
        }
    }

    private static void meshOnes() {
        String wide = "step 9; bend 20;";
        runs("mesh, the next below LOW that 10 divides, of 51", one("mesh", 9, 51, 51) + wide, 0, 50, 51);
        runs("mesh, of 50 it is 40", one("mesh", 9, 50, 51) + wide, 0, 40, 51);
        runs("mesh, of 59 it is 50", one("mesh", 9, 59, 59) + wide, 0, 50, 59);
        runs("mesh, of 1 it is 0", one("mesh", 9, 1, 1) + wide, 0, 0, 1);
        runs("mesh, of 10 it is 0", one("mesh", 9, 10, 10) + wide, 1, 0, 10);
        runs("mesh, of 11 it is 10", one("mesh", 9, 11, 11) + wide, 1, 10, 11);
        runs("mesh, of 0 there is none", one("mesh", 9, 0, 5) + wide, 1, 0, 5);
        runs("mesh, the next above HIGH that 10 divides, of 49", one("mesh", 9, 45, 49) + wide, 2, 40, 50);
        runs("mesh, of 50 it is 60", one("mesh", 9, 50, 50) + wide, 2, 40, 60);
        runs("mesh, of 51 it is 60", one("mesh", 9, 51, 51) + wide, 2, 50, 60);
        runs("mesh, of 0 it is 10", one("mesh", 9, 0, 0) + wide, 2, 0, 10);
        runs("mesh, of 89 it is 90", one("mesh", 9, 89, 89) + wide, 2, 80, 90);
        runs("mesh, of 90 there is none", one("mesh", 9, 90, 90) + wide, 2, 80, 99);
        runs("mesh, of 98 there is none", one("mesh", 9, 98, 98) + "bend 1;", 2, 96, 99);
        runs("mesh, of 99 there is none", one("mesh", 9, 99, 99) + wide, 2, 90, 99);
        runs("mesh, twice as many as plain, not so far", one("mesh", 9, 55, 55) + "step 2;", 0, 51, 55);
        runs("mesh, just so far", one("mesh", 9, 56, 56) + "step 3;", 0, 50, 56);
        runs("mesh, one further", one("mesh", 9, 55, 55) + "step 3;", 0, 50, 55);
        runs("mesh, just so far UP", one("mesh", 9, 54, 54) + "bend 3;", 2, 50, 60);
        runs("mesh, not so far UP", one("mesh", 9, 55, 55) + "bend 2;", 2, 51, 59);
        runs("mesh, twice 0", one("mesh", 9, 55, 55) + "step 0;", 0, 55, 55);
    }

    private static void linedAndOldOnes() {
        runs("lined, no more than A 0", one("lined", 0, 50, 50), 2, 50, 50);
        runs("lined, no more than A 2 of 3", one("lined", 2, 50, 50), 0, 48, 50);
        runs("lined, A 3 of 3", one("lined", 3, 50, 50), 0, 47, 50);
        runs("lined, A 4 of 3", one("lined", 4, 50, 50), 0, 47, 50);
        runs("lined, A 9 of 20", one("lined", 9, 50, 50) + "bend 20;", 1, 41, 50);
        runs("lined, A 9 of 20, UP as well", one("lined", 9, 50, 50) + "bend 20;", 2, 41, 59);
        runs("lined, A 9 of 8", one("lined", 9, 50, 50) + "bend 8;", 2, 42, 58);
        runs("lined, a step is never UP", one("lined", 9, 50, 50), 0, 47, 50);
        runs("old, no more where it is 0, STEP", one("old", 9, 50, 50) + "step 0;", 0, 50, 50);
        runs("old, no more where it is 0, BEND", one("old", 9, 50, 50) + "bend 0;", 1, 50, 50);
        runs("old, no more where it is 0, BEND and a sit", one("old", 9, 50, 50) + "bend 0;", 2, 50, 50);
        runs("old, no more UP by a step", one("old", 9, 50, 50) + "step 1;", 0, 40, 50);
        runs("old, no more UP by a stair", one("old", 9, 50, 50) + "bend 1;", 1, 40, 50);
        runs("old, A 9 more both ways", one("old", 9, 50, 50) + "bend 1;", 2, 40, 60);
        runs("old, A 9 more than 20", one("old", 9, 50, 50) + "bend 20;", 2, 21, 79);
        runs("old, A 0 more", one("old", 0, 50, 50) + "bend 20;", 2, 30, 70);
    }

    private static void ends() {
        runs("just to RUNG 0", one("plain", 0, 9, 9) + "step 9;", 0, 0, 9);
        runs("not to RUNG 0", one("plain", 0, 10, 10) + "step 9;", 0, 1, 10);
        runs("no further than RUNG 0", one("plain", 0, 8, 8) + "step 9;", 0, 0, 8);
        runs("on RUNG 0", one("plain", 0, 0, 8) + "step 9;", 0, 0, 8);
        runs("just to RUNG 99", one("plain", 0, 50, 79) + "bend 20;", 2, 30, 99);
        runs("not to RUNG 99", one("plain", 0, 50, 78) + "bend 20;", 2, 30, 98);
        runs("no further than RUNG 99", one("plain", 0, 50, 80) + "bend 20;", 2, 30, 99);
        runs("on RUNG 99", one("plain", 0, 50, 99) + "bend 20;", 2, 30, 99);
        runs("all RUNGS", one("sheer", 0, 0, 99) + "bend 20;", 2, 0, 99);
        runs("all RUNGS at once", one("sheer", 0, 40, 59) + "bend 20;", 2, 0, 99);
    }

    private static void dryDabs() {
        String at50 = one("plain", 0, 50, 50) + "step 5;bend 5;";
        runs("not onto a dry DAB, next to LOW", at50, 0, 50, 50, 49);
        runs("not onto a dry DAB, on the RUNG that it would come to", at50, 0, 46, 50, 45);
        runs("not beyond one", at50, 0, 47, 50, 46);
        runs("one beyond that RUNG stops nothing", at50, 0, 45, 50, 44);
        runs("one above stops nothing DOWN", at50, 0, 45, 50, 51);
        runs("not onto a dry DAB, next to HIGH", at50, 2, 45, 50, 51);
        runs("not onto a dry DAB, UP", at50, 2, 45, 54, 55);
        runs("not beyond one, UP", at50, 2, 45, 53, 54);
        runs("one beyond that RUNG stops nothing, UP", at50, 2, 45, 55, 56);
        runs("both", at50, 2, 48, 52, 47, 53);
        runs("the nearer of two below", at50, 2, 49, 55, 46, 48);
        runs("the nearer of two below, that was dabbed first", at50, 2, 49, 55, 48, 46);
        runs("the nearer of two above", at50, 2, 45, 51, 54, 52);
        runs("a dry DAB on RUNG 0", one("plain", 0, 5, 5) + "step 9;", 0, 1, 5, 0);
        runs("a dry DAB on RUNG 99", one("plain", 0, 95, 95), 2, 85, 98, 99);
        runs("a dry DAB on the ten of a mesh one", one("mesh", 0, 55, 55), 2, 51, 59, 50, 60);
        runs("a dry DAB beyond the ten of a mesh one", one("mesh", 0, 55, 55), 2, 50, 60, 49, 61);
        runs("a dry DAB ahead of the ten of a mesh one", one("mesh", 0, 55, 55), 2, 53, 57, 52, 58);
        runs("none but dry DABS on both sides of a sheer one", one("sheer", 0, 50, 50), 2, 50, 50, 49, 51);
    }

    private static void wetDabs() {
        String at50 = "plain 0 shade 0 lasts 9 ladder 50 to 50;left 0;";
        for (int dry = 1; dry <= 5; dry++) {
            int minutes = dry;
            Edge.Making damp = x -> {
                Check.told(x, at50);
                x.set(2, minutes);
                x.dab(0, 49);
                for (int i = 1; i < minutes; i++) {
                    x.move(3);
                }
            };
            Edge.due("WET for one minute more", damp, x -> x.dabOf(0, 49), 1);
            Edge.due("a DAB that is WET is gone first, and stops nothing", damp, x -> x.move(0), 4);
            Edge.due("it is gone", damp, x -> x.move(0) * 0 + x.dabOf(0, 49), NONE);
            Edge.due("0: it is dry", damp, x -> x.move(3) * 0 + x.dabOf(0, 49), 0);
            Edge.due("dry after DRY minutes: it stops", damp, x -> x.move(3) * 0 + x.move(0), 1);
            Edge.due("it stays", damp, x -> x.move(3) * x.move(0) * 0 + x.dabOf(0, 49), 0);
        }
        Edge.Making firstWet = x -> {
            Check.told(x, at50);
            x.set(2, 5);
            x.dab(0, 20);
            x.set(2, 1);
            x.dab(0, 48);
            x.move(3);
            x.move(0);
        };
        Edge.due("of two that alone which is WET is gone, the first", firstWet, x -> 10 * x.dabOf(0, 48) + x.dabOf(0, 20),
            NONE);
        Edge.due("of two that alone which is dry stops, the second", firstWet, x -> x.of(0, 6), 49);
        Edge.due("then one has place", firstWet, x -> 10 * x.dab(0, 20) + x.dab(0, 21), 20 - 2);
        Edge.due("of two that alone which is WET is gone, the second", x -> {
            Check.told(x, at50);
            x.dab(0, 10);
            x.move(3);
            x.move(3);
            x.dab(0, 20);
            x.move(0);
        }, x -> 10 * x.dabOf(0, 10) + x.dabOf(0, 20), NONE);
        for (int move = 0; move < 3; move++) {
            int told = move;
            Edge.due("WET DABS are gone where no LADDER is", x -> {
                Check.told(x, "plain 0 shade 0 lasts 9;plain 0 shade 0 lasts 9;right 1;");
                x.dab(1, 0);
                x.dab(1, 99);
            }, x -> x.move(told) + x.many(3), 0);
            Edge.due("WET DABS are gone from thick ones", x -> {
                Check.told(x, "thick 0 shade 0 lasts 9 ladder 5 to 5;right 0;");
                x.dab(0, 4);
            }, x -> x.move(told) + 10 * x.many(3), 1);
        }
        Edge.due("then a DAB comes there again", x -> {
            Check.told(x, at50);
            x.dab(0, 10);
            x.dab(0, 11);
            x.move(0);
        }, x -> x.dab(0, 11), 1);
    }

    private static void standing() {
        Edge.Making wet = x -> {
            Check.told(x, "plain 0 shade 0 lasts 9;plain 0 shade 0 lasts 9;plain 0 shade 0 lasts 9;left 0;right 1;"
                    + "go stands 1;cab stands 60;");
            for (int i = 0; i < 3; i++) {
                x.dab(i, 0);
                x.set(2, 5);
                x.dab(i, 99);
                x.set(2, 2);
            }
        };
        Edge.changes("standing a minute: 1 less on FEET alone", wet, x -> x.move(3), 0, "dabOf(0", "dabOf(1");
        for (int foot = 0; foot < 2; foot++) {
            int on = foot;
            Edge.due("1 less", wet, x -> x.move(3) + x.dabOf(on, 0), 1);
            Edge.due("1 less", wet, x -> x.move(3) + x.dabOf(on, 99), 4);
            Edge.due("by a LEG of 1 minute", wet, x -> x.go(0) + 10 * x.dabOf(on, 99), 41);
            Edge.due("by a LEG of 60 minutes, 0 at last", wet, x -> x.go(1) + x.dabOf(on, 99), 60);
            Edge.due("by a LEG of 60 minutes, 0 at last", wet, x -> x.go(1) + x.dabOf(on, 0), 60);
        }
        Edge.due("a dry one stays dry", wet, x -> {
            int open = 0;
            for (int i = 0; i < 3; i++) {
                open += x.move(3);
            }
            return open + x.dabOf(0, 0);
        }, 0);
        Edge.due("DABS stay", wet, x -> x.go(1) + x.many(3), 66);
    }

    private static void offFeet() {
        Edge.Making off = x -> {
            Check.told(x, one("sheer", 0, 50, 50) + "go steps 9,stands 9,stairs 9,sits 9;");
            x.dab(0, 10);
        };
        for (int move = 0; move < 4; move++) {
            int told = move;
            Edge.still("what is not on a FOOT stays as it is", off, x -> x.move(told), 0);
        }
        Edge.still("what is not on a FOOT stays as it is", off, x -> x.go(0), 20);
    }

    private static void move() {
        Edge.onlyWithin("19: 0 to 3", Edge.SOME, (x, what) -> x.move(what), 0, 3);
        for (int what = 0; what < 4; what++) {
            int told = what;
            Edge.still("19: nothing on FEET", Edge.NEW, x -> x.move(told), 0);
            Edge.changes("19: what is on FEET alone runs", Edge.SOME, x -> x.move(told),
                new int[] {18, 24, 36, 6}[what], "of(0, 6", "of(0, 7", "of(0, 9", "of(1, 6", "of(1, 7", "of(1, 9",
                "dabOf(0", "dabOf(1", "many(3)");
        }
        Edge.due("19: the most that can be OPEN, together", x -> Check.told(x, one("plain", 0, 0, 99)
                + one("sheer", 0, 0, 99) + "left 0;right 1;"), x -> x.move(3), 200);
        Edge.due("19: of the right FOOT alone", x -> Check.told(x, one("plain", 0, 0, 99) + "right 0;"), x -> x.move(3), 100);
    }

    private static void go() {
        Edge.range("20: WAYS 0 and 1", Edge.SOME, (x, way) -> x.go(way), 0, 11, 1, 3);
        Edge.still("20: without LEGS", Edge.NEW, x -> x.go(0), 0);
        Edge.still("20: without LEGS", Edge.NEW, x -> x.go(1), 0);
        Edge.changes("20: what is on FEET alone", Edge.FULL, x -> x.go(1), 60 + 59 + 6 + 3 + 56 + 55 + 6 + 3 + 52 + 51,
            "of(0", "of(6", "dabOf(0", "dabOf(6", "many(3)");
        Edge.due("20: N steps, each of them", x -> Check.told(x, one("plain", 0, 70, 70) + "left 0;step 1;go steps 60;"),
            x -> x.go(0) * 0 + x.of(0, 6), 10);
        Edge.due("20: N stairs, each of them", x -> Check.told(x, one("plain", 0, 70, 70) + "left 0;bend 1;go stairs 60;"),
            x -> x.go(0) * 0 + x.of(0, 6), 10);
        Edge.due("20: a sit of N minutes is one", x -> Check.told(x, one("plain", 0, 70, 70) + "left 0;bend 1;go sits 60;"),
            x -> x.go(0) * 0 + x.of(0, 6), 69);
    }

    private static void minutes() {
        Edge.range("21: WAYS 0 and 1", Edge.SOME, (x, way) -> x.minutes(way), 0, 11, 1, 3);
        Edge.still("21: without LEGS", Edge.NEW, x -> x.minutes(0), 0);
        Edge.asks("21: it changes nothing", Edge.FULL, x -> x.minutes(1));
        Edge.due("21: as many as can be", x -> {
            for (int i = 0; i < 10; i++) {
                x.leg(0, 3, 60);
            }
        }, x -> x.minutes(0), 600);
        Edge.due("21: each LEG upwards by itself", x -> Check.told(x, "go steps 1,steps 1,stairs 1,stairs 11;"),
            x -> x.minutes(0), 5);
    }

    private static void open() {
        Edge.onlyWithin("22: FEET 0 and 1", Edge.SOME, (x, foot) -> x.open(foot, 0, 1), 0, 1);
        Edge.onlyWithin("22: WAYS 0 and 1", Edge.SOME, (x, way) -> x.open(0, way, 1), 0, 1);
        Edge.range("22: n 0 to how many LEGS there are", Edge.SOME, (x, n) -> x.open(0, 0, n), 0, 4, 3, 46);
        Edge.onlyWithin("22: n 0 to ten", Edge.FULL, (x, n) -> x.open(0, 1, n), 0, 10);
        Edge.onlyWithin("22: n 0 alone", Edge.NEW, (x, n) -> x.open(0, 1, n), 0, 0);
        Edge.still("22: NONE, nothing is on it", Edge.NEW, x -> x.open(1, 0, 0), NONE);
        Edge.still("22: BAD ahead of NONE, n", Edge.NEW, x -> x.open(1, 0, 1), BAD);
        Edge.still("22: BAD ahead of NONE, n", Edge.NEW, x -> x.open(1, 0, -1), BAD);
        Edge.still("22: BAD ahead of NONE, WAY", Edge.NEW, x -> x.open(1, 2, 0), BAD);
        Edge.still("22: no LADDER", Edge.FULL, x -> x.open(1, 0, 10), 0);
        Edge.due("22: all RUNGS", x -> Check.told(x, one("sheer", 0, 50, 50) + "right 0;go sits 1,sits 1,sits 1;"),
            x -> x.open(1, 0, 3), 100);
        for (int n = 0; n <= 10; n++) {
            int legs = n;
            Edge.asks("2: a TRIAL changes nothing", Edge.FULL, x -> x.open(0, 1, legs));
        }
    }

    private static void seenNumbers() {
        Edge.onlyWithin("23: SIDES 0 to 3", Edge.SOME, (x, side) -> x.seen(side, 0, 1), 0, 3);
        Edge.onlyWithin("23: WAYS 0 and 1", Edge.SOME, (x, way) -> x.seen(0, way, 1), 0, 1);
        Edge.range("23: n 0 to how many LEGS there are", Edge.SOME, (x, n) -> x.seen(2, 0, n), 0, 4, 3, 38);
        Edge.onlyWithin("23: n 0 to ten", Edge.FULL, (x, n) -> x.seen(0, 1, n), 0, 10);
        Edge.onlyWithin("23: n 0 alone", Edge.NEW, (x, n) -> x.seen(0, 1, n), 0, 0);
        Edge.still("23: nothing on FEET", Edge.NEW, x -> x.seen(0, 0, 0), 0);
        Edge.asks("2: a TRIAL changes nothing", Edge.FULL, x -> x.seen(0, 1, 10));
    }

    private static void seenOf(String sentence, int low, int high, int shoe, int hem, int due) {
        Edge.due(sentence, x -> {
            Check.told(x, one("plain", 0, low, high) + "left 0;");
            x.set(3, shoe);
            x.set(4, hem);
        }, x -> x.seen(0, 0, 0), due);
    }

    private static void shoeAndHem() {
        seenOf("from SHOE on", 8, 8, 8, 60, 1);
        seenOf("below SHOE", 7, 7, 8, 60, 0);
        seenOf("from below SHOE on", 7, 8, 8, 60, 1);
        seenOf("below HEM", 59, 59, 8, 60, 1);
        seenOf("at HEM", 60, 60, 8, 60, 0);
        seenOf("beyond HEM", 59, 61, 8, 60, 1);
        seenOf("from SHOE to HEM", 0, 99, 8, 60, 52);
        seenOf("SHOE 0, HEM 100", 0, 99, 0, 100, 100);
        seenOf("SHOE 30, HEM 31", 0, 99, 30, 31, 1);
        seenOf("SHOE 30, HEM 31", 31, 99, 30, 31, 0);
        seenOf("SHOE 30, HEM 31", 0, 29, 30, 31, 0);
        seenOf("RUNG 0 with SHOE 0", 0, 0, 0, 31, 1);
        seenOf("RUNG 99 with HEM 100", 99, 99, 0, 100, 1);
        seenOf("RUNG 99 with HEM 99", 99, 99, 0, 99, 0);
    }

    private static void sides() {
        // By FOOT and ANGLE: the SIDE to which it shows.
        int[][] shows = {{0, 1, 2, 3}, {0, 3, 2, 1}};
        for (int foot = 0; foot < 2; foot++) {
            for (int angle = 0; angle < 4; angle++) {
                for (int side = 0; side < 4; side++) {
                    int on = foot;
                    int told = angle;
                    int asked = side;
                    Edge.due("ANGLE " + angle + " on FOOT " + foot + " from SIDE " + side, x -> {
                        Check.told(x, one("plain", 0, 20, 24));
                        x.wear(on, 0);
                        x.turn(0, told);
                    }, x -> x.seen(asked, 0, 0), shows[foot][angle] == side ? 5 : 0);
                }
            }
        }
        String both = one("plain", 0, 20, 24) + one("plain", 0, 30, 36) + "left 0;right 1;";
        Edge.due("of all on FEET", x -> Check.told(x, both), x -> x.seen(0, 0, 0), 12);
        Edge.due("outer of both: the left one", x -> Check.told(x, both), x -> x.turn(0, 1) + x.turn(1, 1)
            + 100 * x.seen(1, 0, 0) + x.seen(3, 0, 0), 507);
        Edge.due("inner of both: the other way", x -> Check.told(x, both), x -> x.turn(0, 3) + x.turn(1, 3)
            + 100 * x.seen(1, 0, 0) + x.seen(3, 0, 0), 705);
    }

    private static void when() {
        Edge.onlyWithin("24: FEET 0 and 1", Edge.SOME, (x, foot) -> x.when(foot, 0, 1), 0, 1);
        Edge.onlyWithin("24: WAYS 0 and 1", Edge.SOME, (x, way) -> x.when(0, way, 1), 0, 1);
        Edge.range("24: 1 to 100", Edge.SOME, (x, rungs) -> x.when(0, 0, rungs), 1, 0, 100, NONE);
        Edge.still("24: NONE, nothing is on it", Edge.NEW, x -> x.when(0, 0, 1), NONE);
        Edge.still("24: NONE, never", Edge.FULL, x -> x.when(1, 0, 1), NONE);
        Edge.still("24: BAD ahead of NONE", Edge.NEW, x -> x.when(0, 0, 0), BAD);
        Edge.still("24: BAD ahead of NONE", Edge.NEW, x -> x.when(0, 0, 101), BAD);
        Edge.still("24: BAD ahead of NONE", Edge.NEW, x -> x.when(0, 2, 1), BAD);
        Edge.asks("2: a TRIAL changes nothing", Edge.FULL, x -> x.when(0, 1, 100));
        Edge.Making sits = x -> Check.told(x, one("plain", 0, 50, 54) + "left 0;go stands 1,sits 1,stands 1,sits 1,sits 1;");
        int[][] due = {{5, 0}, {6, 2}, {25, 2}, {26, 4}, {45, 4}, {46, 5}, {65, 5}, {66, NONE}};
        for (int[] d : due) {
            Edge.due("24: so much, or more: " + d[0], sits, x -> x.when(0, 0, d[0]), d[1]);
        }
        Edge.Making ten = x -> {
            Check.told(x, one("plain", 0, 91, 91) + "left 0;step 9;");
            for (int i = 0; i < 10; i++) {
                x.leg(1, 0, 1);
            }
        };
        Edge.due("24: behind the tenth LEG", ten, x -> x.when(0, 1, 91), 10);
        Edge.due("24: never", ten, x -> x.when(0, 1, 92), NONE);
        Edge.due("24: all RUNGS, ahead of the first LEG", x -> Check.told(x, one("plain", 0, 0, 99) + "left 0;"),
            x -> x.when(0, 0, 100), 0);
        Edge.due("24: without LEGS", x -> Check.told(x, one("plain", 0, 0, 98) + "left 0;"), x -> x.when(0, 0, 100), NONE);
    }

    private static void dabbedNumbers() {
        Edge.onlyWithin("25: FEET 0 and 1", Edge.SOME, (x, foot) -> x.dabbed(foot, 0, 1), 0, 1);
        Edge.onlyWithin("25: WAYS 0 and 1", Edge.SOME, (x, way) -> x.dabbed(0, way, 1), 0, 1);
        Edge.range("25: i 0 to how many LEGS there are", Edge.SOME, (x, i) -> x.dabbed(0, 0, i), 0, 19, 3, 46);
        Edge.onlyWithin("25: i 0 to ten", Edge.FULL, (x, i) -> x.dabbed(0, 1, i), 0, 10);
        Edge.onlyWithin("25: i 0 alone", Edge.NEW, (x, i) -> x.dabbed(0, 1, i), 0, 0);
        Edge.still("25: NONE, nothing is on it", Edge.NEW, x -> x.dabbed(0, 0, 0), NONE);
        Edge.still("25: NONE, no LADDER", Edge.FULL, x -> x.dabbed(1, 0, 0), NONE);
        Edge.still("25: BAD ahead of NONE, i", Edge.FULL, x -> x.dabbed(1, 0, 11), BAD);
        Edge.still("25: BAD ahead of NONE, i", Edge.FULL, x -> x.dabbed(1, 0, -1), BAD);
        Edge.still("25: BAD ahead of NONE, WAY", Edge.FULL, x -> x.dabbed(1, 2, 0), BAD);
        for (int i = 0; i <= 10; i++) {
            int leg = i;
            Edge.asks("2: a TRIAL changes nothing", Edge.FULL, x -> x.dabbed(0, 0, leg));
        }
    }

    private static void dabbedAtEnds() {
        String way = "left 0;go sits 1;";
        Edge.Making middle = x -> Check.told(x, one("plain", 0, 50, 50) + way);
        Edge.due("DABBED ahead of all", middle, x -> x.dabbed(0, 0, 0), 1);
        Edge.due("DABBED behind all", middle, x -> x.dabbed(0, 0, 1), 21);
        Edge.due("below LOW 0 none can be", x -> Check.told(x, one("plain", 0, 0, 0) + way), x -> x.dabbed(0, 0, 0), 1);
        Edge.due("above HIGH 99 none can be", x -> Check.told(x, one("plain", 0, 99, 99) + way), x -> x.dabbed(0, 0, 0), 1);
        Edge.due("neither can be", x -> Check.told(x, one("plain", 0, 0, 99) + way), x -> x.dabbed(0, 0, 0), 100);
        Edge.due("on RUNG 0", x -> Check.told(x, one("plain", 0, 1, 1) + way), x -> x.dabbed(0, 0, 0), 1);
        Edge.due("on RUNG 99", x -> Check.told(x, one("plain", 0, 98, 98) + way), x -> x.dabbed(0, 0, 0), 1);
        for (int dry = 1; dry <= 5; dry += 4) {
            int minutes = dry;
            Edge.due("then one stands DRY minutes, " + dry, x -> {
                middle.make(x);
                x.set(2, minutes);
            }, x -> x.dabbed(0, 0, 0), 1);
        }
        Edge.due("of a WAY without LEGS", middle, x -> x.dabbed(0, 1, 0), 1);
        Edge.due("the other FOOT's LADDER counts nothing", x -> Check.told(x, one("plain", 0, 50, 50)
            + one("sheer", 0, 50, 50) + "left 0;right 1;go sits 1;"), x -> 100 * x.dabbed(0, 0, 1) + x.dabbed(1, 0, 1), 2141);
    }

    private static void dabbedBesideDabs() {
        String text = one("plain", 0, 50, 50) + "left 0;go sits 1;";
        Edge.due("one has place: that below LOW", x -> {
            Check.told(x, text);
            x.dab(0, 5);
        }, x -> x.dabbed(0, 0, 0), 11);
        Edge.due("one has place, below is one: that above HIGH", x -> {
            Check.told(x, text);
            x.dab(0, 49);
        }, x -> x.dabbed(0, 0, 0), 1);
        Edge.due("one has place, above is one", x -> {
            Check.told(x, text);
            x.dab(0, 51);
        }, x -> x.dabbed(0, 0, 0), 1);
        Edge.due("none has place", x -> {
            Check.told(x, text);
            x.dab(0, 5);
            x.dab(0, 6);
        }, x -> x.dabbed(0, 0, 0), 21);
        Edge.due("none has place, those that are there dry", x -> {
            Check.told(x, text);
            x.dab(0, 48);
            x.dab(0, 52);
        }, x -> x.dabbed(0, 0, 0), 3);
        Edge.due("those that are there are WET for longer than DRY", x -> {
            Check.told(x, text);
            x.set(2, 5);
            x.dab(0, 48);
            x.dab(0, 52);
            x.set(2, 4);
        }, x -> x.dabbed(0, 0, 0), 21);
        Edge.due("as long as DRY", x -> {
            Check.told(x, text);
            x.set(2, 4);
            x.dab(0, 48);
            x.dab(0, 52);
        }, x -> x.dabbed(0, 0, 0), 3);
        Edge.due("LOW 0: the one place is for that above HIGH", x -> {
            Check.told(x, one("plain", 0, 0, 5) + "left 0;go sits 1;");
            x.dab(0, 99);
        }, x -> x.dabbed(0, 0, 0), 6);
    }

    private static void bestLegNumbers() {
        Edge.onlyWithin("26: FEET 0 and 1", Edge.SOME, (x, foot) -> x.bestLeg(foot, 0, 999), 0, 1);
        Edge.onlyWithin("26: WAYS 0 and 1", Edge.SOME, (x, way) -> x.bestLeg(0, way, 999), 0, 1);
        Edge.range("26: minutes 0 to 999", Edge.SOME, (x, minutes) -> x.bestLeg(0, 0, minutes), 0, NONE, 999, 0);
        Edge.still("26: NONE, nothing is on it", Edge.NEW, x -> x.bestLeg(0, 0, 999), NONE);
        Edge.still("26: NONE, no LADDER", Edge.FULL, x -> x.bestLeg(1, 0, 999), NONE);
        Edge.still("26: BAD ahead of NONE", Edge.NEW, x -> x.bestLeg(0, 0, 1000), BAD);
        Edge.still("26: BAD ahead of NONE", Edge.NEW, x -> x.bestLeg(0, 0, -1), BAD);
        Edge.still("26: BAD ahead of NONE", Edge.NEW, x -> x.bestLeg(0, 2, 999), BAD);
        Edge.asks("2: a TRIAL changes nothing", Edge.FULL, x -> x.bestLeg(0, 0, 999));
        // MINUTES of WAY 0 in SOME are 11, DRY is 4.
        Edge.due("26: MINUTES and DRY, just as many", Edge.SOME, x -> x.bestLeg(0, 0, 15), 0);
        Edge.due("26: MINUTES and DRY are more by one", Edge.SOME, x -> x.bestLeg(0, 0, 14), NONE);
        Edge.due("26: DRY is one more", Edge.SOME, x -> x.set(2, 5) * 0 + x.bestLeg(0, 0, 15), NONE);
        Edge.due("26: without LEGS, DRY alone", x -> Check.told(x, one("plain", 0, 9, 9) + "left 0;"),
            x -> 10 * x.bestLeg(0, 0, 2) + x.bestLeg(0, 0, 1), NONE);
        Edge.Making long605 = x -> {
            Check.told(x, one("plain", 0, 9, 9) + "left 0;");
            x.set(2, 5);
            for (int i = 0; i < 10; i++) {
                x.leg(0, 2, 60);
            }
        };
        Edge.due("26: 600 and 5", long605, x -> x.bestLeg(0, 0, 605), 0);
        Edge.due("26: 600 and 5 are more", long605, x -> x.bestLeg(0, 0, 604), NONE);
    }

    private static void bestLegOfSeveral() {
        Edge.due("26: of several the least, all alike", x -> Check.told(x, one("thick", 0, 9, 9)
            + "left 0;go steps 1,steps 1;"), x -> x.bestLeg(0, 0, 999), 0);
        Edge.due("26: of several the least, with standing first", x -> Check.told(x, one("plain", 0, 50, 50)
            + "left 0;go stands 1,stands 2,steps 3;"), x -> x.bestLeg(0, 0, 999), 0);
        // Two DABS that are WET leave no place; the first LEG loses them, and opens least.
        Edge.due("26: not the first", x -> {
            Check.told(x, one("plain", 0, 50, 50) + "left 0;go steps 1,stands 1,stairs 1;");
            x.dab(0, 1);
            x.dab(0, 2);
        }, x -> x.bestLeg(0, 0, 999), 1);
        // Those that are there dry only if DRY is stood ahead of the stairs; where else counts nothing.
        Edge.Making wet = x -> {
            Check.told(x, one("plain", 0, 50, 50) + "left 0;go stands 1,stands 1,stairs 1;");
            x.set(2, 3);
            x.dab(0, 49);
            x.dab(0, 10);
            x.set(2, 1);
        };
        int[] due = {1, 1, 1, 11};
        for (int i = 0; i < 4; i++) {
            int leg = i;
            Edge.due("26: ahead of LEG " + i, wet, x -> x.dabbed(0, 0, leg), due[i]);
        }
        Edge.due("26: of several the least", wet, x -> x.bestLeg(0, 0, 999), 0);
    }

    private static void turned() {
        Edge.onlyWithin("27: FEET 0 and 1", Edge.SOME, (x, foot) -> x.turned(foot, 0, 1), 0, 1);
        Edge.onlyWithin("27: WAYS 0 and 1", Edge.SOME, (x, way) -> x.turned(0, way, 1), 0, 1);
        Edge.range("27: sets 1 to 15", Edge.SOME, (x, sides) -> x.turned(0, 0, sides), 1, 1, 15, 0);
        Edge.still("27: NONE, nothing is on it", Edge.NEW, x -> x.turned(0, 0, 1), NONE);
        Edge.still("27: BAD ahead of NONE", Edge.NEW, x -> x.turned(0, 0, 0), BAD);
        Edge.still("27: BAD ahead of NONE", Edge.NEW, x -> x.turned(0, 0, 16), BAD);
        Edge.still("27: BAD ahead of NONE", Edge.NEW, x -> x.turned(0, -1, 1), BAD);
        for (int sides = 1; sides < 16; sides++) {
            int asked = sides;
            Edge.asks("2: a TRIAL changes nothing", Edge.SOME, x -> x.turned(0, 0, asked));
            // By FOOT the ANGLES as they show to SIDES 0 to 3; the first that isn't in the set.
            for (int foot = 0; foot < 2; foot++) {
                int[][] shows = {{0, 1, 2, 3}, {0, 3, 2, 1}};
                int due = 0;
                while (due < 4 && (sides >> shows[foot][due] & 1) == 1) {
                    due++;
                }
                int on = foot;
                for (int angle = 0; angle < 4; angle++) {
                    int told = angle;
                    Edge.due("27: least, and of several the least, FOOT " + foot + " and set " + sides, x -> {
                        Check.told(x, one("plain", 0, 20, 24));
                        x.wear(on, 0);
                        x.turn(0, told);
                    }, x -> x.turned(on, 0, asked), due % 4);
                }
            }
        }
        Edge.due("27: nothing is seen, of all the least", x -> Check.told(x, one("plain", 0, 60, 99) + "left 0;"),
            x -> x.turned(0, 0, 1), 0);
        Edge.due("27: no LADDER", Edge.FULL, x -> x.turned(1, 0, 1), 0);
        Edge.due("27: seen behind the WAY", x -> Check.told(x, one("plain", 0, 60, 60) + "left 0;go steps 1;"),
            x -> 10 * x.turned(0, 0, 1) + x.turned(0, 1, 1), 10);
    }

    private static void better() {
        Edge.still("28: nothing at all", Edge.NEW, x -> x.better(), 0);
        Edge.asks("2: a TRIAL changes nothing", Edge.SOME, x -> x.better());
        Edge.asks("2: a TRIAL changes nothing", Edge.FULL, x -> x.better());
        String on = one("plain", 0, 50, 50) + "left 0;step 1;";
        String[] ways = {"go steps 2;cab steps 1,stands 60;", "go steps 1,stands 60;cab steps 2;",
            "go stands 2;cab stands 1;", "go stands 1;cab stands 2;", "go stands 2;cab stands 2;",
            "go steps 1;cab stands 1,steps 1;", "cab stands 1;", "go stands 1;", "go steps 1;", "cab steps 1;"};
        int[] due = {1, 0, 1, 0, 0, 0, 0, 1, 1, 0};
        String[] sentences = {"less OPEN by one", "less OPEN by one", "fewer MINUTES by one", "fewer MINUTES by one",
            "else 0", "fewer MINUTES", "a WAY without LEGS", "a WAY without LEGS", "a WAY without LEGS",
            "a WAY without LEGS"};
        for (int i = 0; i < ways.length; i++) {
            String way = ways[i];
            Edge.due("28: " + sentences[i] + ", " + way, x -> Check.told(x, on + way), x -> x.better(), due[i]);
        }
        Edge.due("28: what is on no FOOT counts nothing", x -> Check.told(x, one("plain", 0, 50, 50)
            + "go stands 1,steps 3;cab stands 2;"), x -> x.better(), 0);
        Edge.due("28: together, as many OPEN", x -> Check.told(x, one("plain", 0, 99, 99) + one("plain", 0, 50, 50)
            + "left 0;right 1;bend 3;go sits 1;cab steps 2,stairs 1;"), x -> x.better(), 0);
    }
}
