/** Promises 19 to 28: moves, ways, trials and what is best by them. */
public final class WaysTest {
    public static void main(String[] args) {
        runsByKinds();
        stopsAtMeshTens();
        stopsAtDryDabs();
        losesWetDabs();
        leavesWhatIsOff();
        goes();
        triesOpen();
        isSeen();
        tellsWhen();
        isDabbed();
        findsBestLeg();
        isTurned();
        findsTheBetterWay();
        Check.end("WaysTest");
    }

    private static void runs(String kind, int what, int low, int high) {
        NylonLadder x = Check.of(kind + " lasts 9 ladder 50 to 50; right 0;");
        Check.due(kind + " by " + what, x.move(what), high - low + 1);
        Check.due(kind + " by " + what + ": LOW", x.of(0, 6), low);
        Check.due(kind + " by " + what + ": HIGH", x.of(0, 7), high);
    }

    private static void runsByKinds() {
        int[][] due = {{47, 50, 40, 50, 40, 60}, {44, 50, 30, 50, 30, 70}, {50, 50, 50, 50, 50, 50},
            {44, 50, 40, 50, 40, 60}, {48, 50, 48, 50, 48, 52}, {42, 50, 35, 50, 35, 65}};
        String[] kinds = {"plain 5 shade 0", "sheer 5 shade 0", "thick 5 shade 0", "mesh 5 shade 0",
            "lined 2 shade 0", "old 5 shade 0"};
        for (int kind = 0; kind < 6; kind++) {
            for (int what = 0; what < 3; what++) {
                runs(kinds[kind], what, due[kind][2 * what], due[kind][2 * what + 1]);
            }
            runs(kinds[kind], 3, 50, 50);
        }
        runs("lined 9 shade 0", 0, 47, 50);
        runs("lined 0 shade 0", 2, 50, 50);
        NylonLadder x = Check.of("old 9 shade 0 lasts 9 ladder 50 to 50; left 0; step 0; bend 0;");
        Check.due("no more where it is 0", x.move(0), 1);
        Check.due("no more where it is 0", x.move(1), 1);
        Check.due("no more where it is 0", x.move(2), 1);
        x = Check.of("sheer 0 shade 0 lasts 9 ladder 5 to 90; left 0;");
        Check.due("to RUNG 0 and 99", x.move(2), 100);
        Check.due("no further", x.move(2), 100);
        Check.due("LOW", x.of(0, 6), 0);
        Check.due("HIGH", x.of(0, 7), 99);
        for (int what : new int[] {-1, 4, Integer.MIN_VALUE, Integer.MAX_VALUE}) {
            Check.due("no MOVE", x.move(what), -1);
        }
        Check.due("nothing on FEET", new NylonLadder().move(2), 0);
    }

    private static void stopsAtMeshTens() {
        NylonLadder x = Check.of("mesh 0 shade 0 lasts 9 ladder 11 to 19; left 0; bend 3;");
        x.move(2);
        Check.due("down to 10", x.of(0, 6), 10);
        Check.due("up to 20", x.of(0, 7), 20);
        x.move(2);
        Check.due("not as far as the ten", x.of(0, 6), 4);
        Check.due("not as far as the ten", x.of(0, 7), 26);
        x.move(2);
        Check.due("down to 0", x.of(0, 6), 0);
        Check.due("up to 30", x.of(0, 7), 30);
        x.move(2);
        Check.due("stays on 0", x.of(0, 6), 0);
        Check.due("on from 30", x.of(0, 7), 36);
        x = Check.of("mesh 0 shade 0 lasts 9 ladder 95 to 95; left 0; bend 20;");
        x.move(2);
        Check.due("down to 90", x.of(0, 6), 90);
        Check.due("no further than 99", x.of(0, 7), 99);
        x.move(1);
        Check.due("to the next ten below", x.of(0, 6), 80);
    }

    private static void stopsAtDryDabs() {
        NylonLadder x = Check.of("plain 0 shade 0 lasts 9 ladder 50 to 50; left 0;");
        x.dab(0, 45);
        x.dab(0, 52);
        x.move(3);
        x.move(3);
        x.move(0);
        Check.due("LOW", x.of(0, 6), 47);
        x.move(0);
        Check.due("LOW", x.of(0, 6), 46);
        x.move(2);
        Check.due("LOW", x.of(0, 6), 46);
        Check.due("HIGH", x.of(0, 7), 51);
        Check.due("DABS stay", x.many(3), 2);
        x = Check.of("sheer 0 shade 0 lasts 9 ladder 50 to 50; left 0;");
        x.dab(0, 30);
        x.dab(0, 40);
        x.move(3);
        x.move(3);
        x.move(1);
        Check.due("the nearer one stops it", x.of(0, 6), 41);
        x = Check.of("mesh 0 shade 0 lasts 9 ladder 15 to 15; left 0;");
        x.dab(0, 12);
        x.dab(0, 19);
        x.move(3);
        x.move(3);
        x.move(2);
        Check.due("LOW of mesh", x.of(0, 6), 13);
        Check.due("HIGH of mesh", x.of(0, 7), 18);
    }

    private static void losesWetDabs() {
        NylonLadder x = Check.of("plain 0 shade 0 lasts 9 ladder 50 to 50; left 0;");
        x.dab(0, 45);
        x.move(3);
        x.dab(0, 55);
        x.move(3);
        Check.due("dry", x.dabOf(0, 45), 0);
        Check.due("wet", x.dabOf(0, 55), 1);
        x.move(2);
        Check.due("the dry one stays", x.dabOf(0, 45), 0);
        Check.due("the wet one is gone", x.dabOf(0, 55), -3);
        Check.due("it stops nothing", x.of(0, 7), 60);
        Check.due("LOW", x.of(0, 6), 46);
        x.dab(0, 20);
        x.move(0);
        Check.due("gone though nothing runs", x.many(3), 1);
        x = Check.of("thick 0 shade 0 lasts 9; left 0;");
        x.dab(0, 20);
        x.move(1);
        Check.due("gone without a LADDER", x.many(3), 0);
        x = Check.of("plain 0 shade 0 lasts 9; left 0;");
        x.set(2, 5);
        x.dab(0, 7);
        x.dab(0, 8);
        x.leg(0, 3, 4);
        Check.due("minutes", x.go(0), 4);
        Check.due("4 less", x.dabOf(0, 7), 1);
        Check.due("minutes", x.go(0), 4);
        Check.due("not below 0", x.dabOf(0, 8), 0);
        x.set(2, 1);
        x.wash(0);
        x.wear(0, -1);
        x.wash(0);
        x.dab(0, 3);
        x.wear(0, 0);
        x.clear(0);
        x.leg(0, 2, 60);
        x.go(0);
        Check.due("a sit dries nothing", x.many(3), 0);
    }

    private static void leavesWhatIsOff() {
        NylonLadder x = Check.of("plain 0 shade 0 lasts 9 ladder 50 to 50; plain 0 shade 0 lasts 9 ladder 50 to 50;"
                + "left 1; go steps 2, stands 5;");
        x.dab(0, 10);
        x.go(0);
        x.move(2);
        Check.due("OPEN of what is off", x.of(0, 9), 1);
        Check.due("its DAB", x.dabOf(0, 10), 2);
        Check.due("OPEN of what is on", x.of(1, 9), 27);
        Check.due("both", x.wear(1, 0), -9);
        Check.due("together", x.move(3), 28);
    }

    private static void goes() {
        NylonLadder x = Check.of("plain 0 shade 0 lasts 9 ladder 90 to 90; left 0;"
                + "go steps 4, stairs 2, sits 7; cab steps 60, steps 60;");
        Check.due("go", x.go(0), 9);
        Check.due("LOW", x.of(0, 6), 48);
        Check.due("HIGH", x.of(0, 7), 99);
        Check.due("the LEGS stay", x.many(1), 5);
        Check.due("go", x.go(1), 6);
        Check.due("LOW", x.of(0, 6), 0);
        Check.due("no WAY", x.go(2), -1);
        Check.due("no WAY", x.go(-1), -1);
        Check.due("no WAY", x.go(Integer.MIN_VALUE), -1);
        Check.due("with bare feet", new NylonLadder().go(1), 0);
    }

    private static void triesOpen() {
        NylonLadder x = Check.of("plain 0 shade 0 lasts 9 ladder 50 to 50; thick 0 shade 0 lasts 9; left 0;"
                + "go steps 4, stairs 2, sits 7;");
        x.dab(0, 3);
        int[] due = {1, 13, 33, 53};
        for (int n = 0; n < 4; n++) {
            Check.due("open of " + n, x.open(0, 0, n), due[n]);
        }
        Check.due("nothing changed", x.of(0, 9), 1);
        Check.due("nothing changed", x.dabOf(0, 3), 2);
        Check.due("fewer", x.open(0, 0, 4), -1);
        Check.due("fewer", x.open(0, 1, 1), -1);
        Check.due("below 0", x.open(0, 0, -1), -1);
        Check.due("no FOOT", x.open(2, 0, 0), -1);
        Check.due("no FOOT", x.open(-1, 0, 0), -1);
        Check.due("no WAY", x.open(0, 2, 0), -1);
        Check.due("no WAY", x.open(0, -1, 0), -1);
        Check.due("nothing on it", x.open(1, 0, 0), -3);
        Check.due("BAD ahead of NONE", x.open(1, 0, 4), -1);
        x.wear(1, 1);
        Check.due("no LADDER", x.open(1, 0, 3), 0);
    }

    private static void isSeen() {
        NylonLadder x = Check.of("plain 0 shade 0 lasts 9 ladder 0 to 99; thick 0 shade 0 lasts 9 ladder 5 to 8;"
                + "left 0; right 1; go steps 4;");
        int[][] left = {{0, 52}, {1, 52}, {2, 52}, {3, 52}};
        int[] rightSide = {0, 3, 2, 1};
        for (int angle = 0; angle < 4; angle++) {
            for (int other = 0; other < 4; other++) {
                x.turn(0, angle);
                x.turn(1, other);
                for (int side = 0; side < 4; side++) {
                    int due = (left[angle][0] == side ? 52 : 0) + (rightSide[other] == side ? 1 : 0);
                    Check.due("seen from " + side + " at " + angle + " and " + other, x.seen(side, 0, 0), due);
                }
            }
        }
        x.set(3, 0);
        x.set(4, 100);
        x.turn(0, 0);
        x.turn(1, 0);
        Check.due("all of them", x.seen(0, 0, 1), 104);
        x.set(3, 6);
        x.set(4, 31);
        Check.due("25 and 3", x.seen(0, 0, 1), 28);
        Check.due("no SIDE", x.seen(4, 0, 0), -1);
        Check.due("no SIDE", x.seen(-1, 0, 0), -1);
        Check.due("no WAY", x.seen(0, 2, 0), -1);
        Check.due("fewer", x.seen(0, 0, 2), -1);
        Check.due("below 0", x.seen(0, 0, -1), -1);
        x = Check.of("plain 0 shade 0 lasts 9 ladder 61 to 61; left 0; go steps 2, stairs 6;");
        Check.due("above", x.seen(0, 0, 0), 0);
        Check.due("down to 55", x.seen(0, 0, 1), 5);
        Check.due("down to 0", x.seen(0, 0, 2), 52);
        Check.due("nothing changed", x.of(0, 9), 1);
        Check.due("bare feet", new NylonLadder().seen(0, 0, 0), 0);
        x.wear(0, -1);
        Check.due("off", x.seen(0, 0, 2), 0);
    }

    private static void tellsWhen() {
        NylonLadder x = Check.of("plain 0 shade 0 lasts 9 ladder 50 to 50; thick 0 shade 0 lasts 9; left 0; right 1;"
                + "go steps 4, stairs 2, sits 7;");
        int[][] due = {{1, 0}, {2, 1}, {13, 1}, {14, 2}, {33, 2}, {34, 3}, {53, 3}, {54, -3}, {100, -3}, {101, -1},
            {0, -1}, {-1, -1}, {Integer.MAX_VALUE, -1}};
        for (int[] d : due) {
            Check.due("when " + d[0], x.when(0, 0, d[0]), d[1]);
        }
        Check.due("never", x.when(1, 0, 1), -3);
        x.wear(1, -1);
        Check.due("nothing on it", x.when(1, 0, 1), -3);
        Check.due("BAD ahead of NONE", x.when(1, 0, 0), -1);
        Check.due("no FOOT", x.when(2, 0, 1), -1);
        Check.due("no FOOT", x.when(-1, 0, 1), -1);
        Check.due("no WAY", x.when(0, 2, 1), -1);
        Check.due("nothing changed", x.of(0, 9), 1);
    }

    private static void isDabbed() {
        NylonLadder x = Check.of("plain 0 shade 0 lasts 9 ladder 50 to 50; plain 0 shade 0 lasts 9; left 0; right 1;"
                + "go steps 4, stairs 2, sits 7;");
        int[] due = {1, 13, 33, 53};
        for (int i = 0; i < 4; i++) {
            Check.due("dabbed ahead of " + i, x.dabbed(0, 0, i), due[i]);
        }
        Check.due("nothing changed", x.many(3), 0);
        Check.due("beyond", x.dabbed(0, 0, 4), -1);
        Check.due("below 0", x.dabbed(0, 0, -1), -1);
        Check.due("no FOOT", x.dabbed(2, 0, 0), -1);
        Check.due("no WAY", x.dabbed(0, -1, 0), -1);
        Check.due("no LADDER", x.dabbed(1, 0, 0), -3);
        Check.due("BAD ahead of NONE", x.dabbed(1, 0, 4), -1);
        x.wear(1, -1);
        Check.due("nothing on it", x.dabbed(1, 0, 0), -3);
        // A DAB that it has takes the place of the second one; it dries as well.
        x.dab(0, 20);
        Check.due("only the one below", x.dabbed(0, 0, 0), 11);
        x.dab(0, 49);
        Check.due("none can be: wet ones dry", x.dabbed(0, 0, 0), 11);
        Check.due("wet ones are gone by steps", x.dabbed(0, 0, 1), 13);
        NylonLadder y = Check.of("plain 0 shade 0 lasts 9 ladder 0 to 5; left 0; go sits 7;");
        Check.due("none below 0", y.dabbed(0, 0, 0), 6);
        y = Check.of("plain 0 shade 0 lasts 9 ladder 95 to 99; left 0; go sits 7;");
        Check.due("none above 99", y.dabbed(0, 0, 0), 5);
        y.set(2, 5);
        Check.due("dried for DRY", y.dabbed(0, 0, 0), 5);
        y = Check.of("plain 0 shade 0 lasts 9 ladder 50 to 50; left 0; go sits 7;");
        y.dab(0, 51);
        Check.due("one is there", y.dabbed(0, 0, 0), 1);
    }

    private static void findsBestLeg() {
        NylonLadder x = Check.of("plain 0 shade 0 lasts 9 ladder 50 to 50; plain 0 shade 0 lasts 9; left 0; right 1;"
                + "go stands 3, steps 4;");
        Check.due("the least of several", x.bestLeg(0, 0, 999), 0);
        Check.due("just as many", x.bestLeg(0, 0, 6), 0);
        Check.due("more", x.bestLeg(0, 0, 5), -3);
        Check.due("of an empty WAY", x.bestLeg(0, 1, 2), 0);
        Check.due("of an empty WAY", x.bestLeg(0, 1, 1), -3);
        // The one DAB that is left is used up by what is there, unless that is wet and lost on the way.
        x.dab(0, 90);
        x.dab(0, 91);
        x.clear(0);
        x.leg(0, 0, 1);
        x.leg(0, 1, 4);
        Check.due("behind the first LEG", x.bestLeg(0, 0, 999), 1);
        Check.due("ahead of it", x.dabbed(0, 0, 0), 44);
        Check.due("behind it", x.dabbed(0, 0, 1), 4);
        Check.due("no LADDER", x.bestLeg(1, 0, 999), -3);
        x.wear(1, -1);
        Check.due("nothing on it", x.bestLeg(1, 0, 999), -3);
        Check.due("BAD ahead of NONE", x.bestLeg(1, 0, 1000), -1);
        Check.due("below 0", x.bestLeg(0, 0, -1), -1);
        Check.due("at 0", x.bestLeg(0, 0, 0), -3);
        Check.due("no FOOT", x.bestLeg(2, 0, 9), -1);
        Check.due("no WAY", x.bestLeg(0, 2, 9), -1);
        Check.due("nothing changed", x.many(3), 2);
    }

    private static void isTurned() {
        NylonLadder x = Check.of("plain 0 shade 0 lasts 9 ladder 50 to 50; plain 0 shade 0 lasts 9 ladder 50 to 50;"
                + "left 0; right 1; go steps 4;");
        // By set of sides; angles 1 and 3 of the right one show to the right and to the left.
        int[] left = {0, 1, 0, 2, 0, 1, 0, 3, 0, 1, 0, 2, 0, 1, 0, 0};
        int[] right = {0, 1, 0, 1, 0, 1, 0, 1, 0, 2, 0, 2, 0, 3, 0, 0};
        for (int sides = 1; sides < 16; sides++) {
            Check.due("turned left, " + sides, x.turned(0, 0, sides), left[sides]);
            Check.due("turned right, " + sides, x.turned(1, 0, sides), right[sides]);
        }
        x.turn(0, 2);
        Check.due("as it is turned counts nothing", x.turned(0, 0, 4), 0);
        Check.due("nothing changed", x.of(0, 5), 2);
        Check.due("nothing changed", x.of(0, 9), 1);
        NylonLadder y = Check.of("plain 0 shade 0 lasts 9 ladder 70 to 70; left 0; go steps 4;");
        Check.due("behind the WAY it shows", y.turned(0, 0, 1), 1);
        Check.due("behind no WAY it doesn't", y.turned(0, 1, 1), 0);
        Check.due("nothing on it", y.turned(1, 0, 1), -3);
        Check.due("no SIDES", y.turned(1, 0, 0), -1);
        Check.due("no SIDES", y.turned(0, 0, 16), -1);
        Check.due("no FOOT", y.turned(2, 0, 1), -1);
        Check.due("no WAY", y.turned(0, 2, 1), -1);
    }

    private static void findsTheBetterWay() {
        Check.due("nothing at all", new NylonLadder().better(), 0);
        String on = "plain 0 shade 0 lasts 9 ladder 50 to 50; plain 0 shade 0 lasts 9 ladder 9 to 9; left 0; right 1;";
        Check.due("less OPEN by cab", Check.of(on + "go steps 2; cab steps 1, sits 60; cab steps 1;").better(), 1);
        Check.due("less OPEN on foot", Check.of(on + "go stands 60; cab steps 1;").better(), 0);
        Check.due("as OPEN, fewer MINUTES", Check.of(on + "go stands 6; cab stands 5;").better(), 1);
        Check.due("as OPEN, more MINUTES", Check.of(on + "go stands 5; cab stands 6;").better(), 0);
        Check.due("all the same", Check.of(on + "go stands 5; cab stands 5;").better(), 0);
        // Together: WAY 0 opens more on the left FOOT, but less on both.
        String two = "sheer 0 shade 0 lasts 9 ladder 99 to 99; lined 1 shade 0 lasts 9 ladder 50 to 50; left 0; right 1;";
        NylonLadder x = Check.of(two + "go sits 1; cab steps 4;");
        Check.due("together", x.open(0, 0, 1) + x.open(1, 0, 1), 24);
        Check.due("together", x.open(0, 1, 1) + x.open(1, 1, 1), 30);
        Check.due("better", x.better(), 0);
        Check.due("nothing changed", x.of(0, 9), 1);
    }
}
