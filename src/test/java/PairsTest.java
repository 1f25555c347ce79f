/** Promises 29 to 38: pairs, costs, where and when a ladder began, days by draws. */
public final class PairsTest {
    private static final int[] NO_STOCKINGS = {-1, 8, Integer.MIN_VALUE, Integer.MAX_VALUE};

    public static void main(String[] args) {
        knowsGoodOnes();
        pairsThem();
        costs();
        isWorthIt();
        knowsSince();
        knowsFrom();
        draws();
        livesDays();
        triesMonths();
        Check.end("PairsTest");
    }

    private static void knowsGoodOnes() {
        NylonLadder x = Check.of("plain 0 shade 0 lasts 9 ladder 0 to 7; plain 0 shade 0 lasts 9 ladder 8 to 8;"
                + "plain 0 shade 0 lasts 9 ladder 59 to 59; plain 0 shade 0 lasts 9 ladder 60 to 99;"
                + "plain 0 shade 0 lasts 1;");
        Check.due("good", x.good(), 0b11001);
        x.set(3, 9);
        Check.due("SHOE is more", x.good(), 0b11011);
        x.set(4, 59);
        Check.due("HEM is less", x.good(), 0b11111);
        x.set(3, 7);
        Check.due("SHOE is less", x.good(), 0b11100);
        Check.due("none", new NylonLadder().good(), 0);
        x = Check.of("plain 0 shade 0 lasts 1; plain 0 shade 0 lasts 2;");
        x.set(7, 0);
        Check.due("day", x.day(), 1);
        Check.due("worn out", x.good(), 2);
    }

    private static void pairsThem() {
        NylonLadder x = Check.of("plain 0 shade 0 lasts 9; plain 1 shade 1 lasts 9; sheer 0 shade 0 lasts 9;"
                + "plain 2 shade 0 lasts 9; plain 3 shade 0 lasts 9; sheer 0 shade 0 lasts 9;"
                + "plain 0 shade 0 lasts 9;");
        Check.due("pairs", x.pairs(), 3);
        int[] mates = {3, -3, 5, 0, 0, 2, 0};
        for (int i = 0; i < mates.length; i++) {
            Check.due("mate(" + i + ")", x.mate(i), mates[i]);
        }
        x.snag(3, 30);
        Check.due("pairs", x.pairs(), 2);
        Check.due("mate of one not good", x.mate(3), -3);
        Check.due("mate", x.mate(0), 4);
        x.mind(1, 1, 0);
        Check.due("another SHADE", x.mate(1), -3);
        for (int none : NO_STOCKINGS) {
            Check.due("mate of none", x.mate(none), -1);
        }
        Check.due("mate of none", x.mate(7), -1);
        Check.due("none", new NylonLadder().pairs(), 0);
        x = new NylonLadder();
        for (int i = 0; i < 8; i++) {
            x.stocking(5, 0, 3, 1);
        }
        Check.due("four pairs", x.pairs(), 4);
    }

    private static void costs() {
        NylonLadder x = Check.of("plain 0 shade 0 lasts 30 ladder 0 to 5; plain 0 shade 0 lasts 30;"
                + "plain 0 shade 0 lasts 1; plain 0 shade 0 lasts 1;");
        x.set(4, 31);
        Check.due("190 by 30", x.costs(0, 0, 0), 19);
        Check.due("190 by 30", x.costs(0, 0, 1), 3);
        Check.due("12 by 30", x.costs(0, 1, 0), 2);
        Check.due("12 by 30", x.costs(0, 1, 1), 5);
        Check.due("0 by 30", x.costs(1, 1, 0), 0);
        Check.due("0 is 0 by 1", x.costs(1, 1, 1), 1);
        x.set(7, 0);
        x.day();
        Check.due("12 by 29", x.costs(0, 1, 1), 29);
        Check.due("new as ever", x.costs(0, 0, 1), 3);
        x.set(6, 7);
        Check.due("7 by 30", x.costs(0, 0, 0), 7);
        Check.due("7 by 30", x.costs(0, 0, 1), 30);
        x.set(6, 999);
        x.set(5, 99);
        x.mend(0);
        x = Check.of("plain 0 shade 0 lasts 1; plain 0 shade 0 lasts 1;");
        x.set(7, 0);
        x.day();
        Check.due("worn out, new", x.costs(0, 0, 0), 190);
        Check.due("worn out, mended", x.costs(0, 1, 0), -3);
        Check.due("worn out, worth", x.worth(0), -3);
        Check.due("BAD ahead of NONE", x.costs(0, 1, 2), -1);
        Check.due("another mended", x.costs(0, 2, 0), -1);
        Check.due("another mended", x.costs(0, -1, 0), -1);
        Check.due("another part", x.costs(0, 0, -1), -1);
        for (int none : NO_STOCKINGS) {
            Check.due("of none", x.costs(none, 0, 0), -1);
            Check.due("of none", x.worth(none), -1);
        }
        Check.due("of none", x.costs(2, 1, 0), -1);
    }

    private static void isWorthIt() {
        NylonLadder x = Check.of("plain 0 shade 0 lasts 30 ladder 0 to 99; plain 0 shade 0 lasts 30 ladder 0 to 0;");
        Check.due("200 against 190", x.worth(0), 0);
        x.set(6, 201);
        Check.due("200 against 201", x.worth(0), 1);
        x.set(6, 200);
        Check.due("the same", x.worth(0), 0);
        x.set(6, 1);
        x.set(5, 0);
        Check.due("nothing against 1", x.worth(1), 1);
        x = Check.of("plain 0 shade 0 lasts 2; plain 0 shade 0 lasts 2;");
        x.set(7, 0);
        x.day();
        x.snag(0, 99);
        x.set(6, 5);
        Check.due("2 by 1 against 5 by 2", x.worth(0), 1);
        x.set(6, 4);
        Check.due("2 by 1 against 4 by 2", x.worth(0), 0);
    }

    private static void knowsSince() {
        NylonLadder x = Check.of("plain 0 shade 0 lasts 9 ladder 50 to 50; plain 0 shade 0 lasts 9;"
                + "go stands 2, steps 4, stands 3, stairs 1;");
        Check.due("behind the WAY", x.since(0, 0, 50), 4);
        Check.due("another RUNG", x.since(0, 0, 51), -3);
        x.mend(0);
        x.snag(0, 60);
        x.wear(0, 0);
        x.go(0);
        Check.due("all but the first LEG", x.since(0, 0, 60), 1);
        Check.due("another RUNG", x.since(0, 0, 61), -3);
        Check.due("RUNG 0", x.since(0, 0, 0), -3);
        // The LADDER of what is on no FOOT is asked for likewise; DABS count nothing.
        x.wear(0, -1);
        x.dab(0, 37);
        Check.due("off", x.since(0, 0, 60), 1);
        Check.due("by the other WAY", x.since(0, 1, 60), -3);
        Check.due("no LADDER", x.since(1, 0, 60), -3);
        Check.due("BAD ahead of NONE", x.since(1, 0, 100), -1);
        Check.due("no RUNG", x.since(0, 0, -1), -1);
        Check.due("no RUNG", x.since(0, 0, Integer.MAX_VALUE), -1);
        Check.due("no WAY", x.since(0, 2, 0), -1);
        for (int none : NO_STOCKINGS) {
            Check.due("of none", x.since(none, 0, 0), -1);
            Check.due("of none", x.from(none, 0, 0), -1);
        }
        x.mind(0, 2, 0);
        Check.due("of another KIND", x.since(0, 0, 60), -3);
        x.mind(0, 5, 1);
        Check.due("of another A", x.since(0, 0, 60), -3);
        Check.due("DABS stay", x.many(3), 1);
    }

    private static void knowsFrom() {
        NylonLadder x = Check.of("plain 0 shade 0 lasts 9 ladder 38 to 60; plain 0 shade 0 lasts 9 ladder 0 to 99;"
                + "plain 0 shade 0 lasts 9; go stands 2, steps 4, stands 3, stairs 1; cab sits 1, sits 1, sits 1, sits 1, sits 1;");
        Check.due("from the start", x.from(0, 0, 0), 60);
        Check.due("from LEG 1", x.from(0, 0, 1), 60);
        Check.due("from LEG 2", x.from(0, 0, 2), -3);
        Check.due("from the end", x.from(0, 0, 4), -3);
        Check.due("beyond", x.from(0, 0, 5), -1);
        Check.due("below 0", x.from(0, 0, -1), -1);
        Check.due("no WAY", x.from(0, 2, 0), -1);
        Check.due("no WAY", x.from(0, -1, 0), -1);
        Check.due("no LADDER", x.from(2, 0, 0), -3);
        Check.due("BAD ahead of NONE", x.from(2, 0, 5), -1);
        Check.due("the least of several", x.from(1, 1, 0), 49);
        x = Check.of("plain 0 shade 0 lasts 9 ladder 0 to 60; plain 0 shade 0 lasts 9 ladder 0 to 5;"
                + "go stairs 9, sits 1; cab steps 60;");
        Check.due("it ends on 0", x.from(0, 0, 0), 50);
        Check.due("it is a rung above none", x.from(1, 1, 0), 5);
        x = Check.of("plain 0 shade 0 lasts 9 ladder 7 to 7;");
        Check.due("no LEGS", x.from(0, 0, 0), 7);
        Check.due("no LEGS", x.since(0, 0, 7), 0);
    }

    private static void draws() {
        NylonLadder x = new NylonLadder();
        Check.due("z", x.seed(Integer.MIN_VALUE), 1);
        Check.due("z", x.seed(-1), Integer.MIN_VALUE);
        Check.due("z", x.seed(0), -1);
        Check.due("no PAIR", x.day(), 0);
        Check.due("z stays", x.seed(0), 0);
        x = Check.of("plain 0 shade 0 lasts 9; plain 0 shade 0 lasts 9;");
        x.set(7, 0);
        x.seed(1);
        x.day();
        Check.due("one draw", x.seed(1), 1103527590);
        x.set(7, 10);
        x.day();
        int second = 1103527590 * 1103515245 + 12345;
        Check.due("two draws", x.seed(1), second);
        Check.due("the RUNG", x.of(0, 6), (second >>> 16) % 100);
        x.mend(0);
        // SNAG is the first number that a draw may leave by 10 without a second one.
        int left = (1103527590 >>> 16) % 10;
        x.set(7, left);
        x.seed(1);
        x.day();
        Check.due("one draw", x.seed(1), 1103527590);
        x.set(7, left + 1);
        x.day();
        Check.due("two draws", x.seed(1), second);
        Check.due("LADDERS", x.many(2), 1);
        x.mend(0);
        // A z below 0 is drawn from as from one above.
        x.set(7, 10);
        x.seed(-77);
        x.day();
        int drawn = (-77 * 1103515245 + 12345) * 1103515245 + 12345;
        Check.due("the RUNG", x.of(0, 6), (drawn >>> 16) % 100);
    }

    private static void livesDays() {
        NylonLadder x = Check.of("sheer 0 shade 0 lasts 9; plain 0 shade 1 lasts 9; plain 0 shade 0 lasts 9;"
                + "plain 0 shade 1 lasts 2 ladder 99 to 99; plain 0 shade 1 lasts 9; right 0;"
                + "go steps 1, steps 2; cab stairs 9;");
        x.set(7, 0);
        x.dab(1, 5);
        Check.due("day", x.day(), 1);
        Check.due("WORN", x.of(1, 4), 1);
        Check.due("WORN", x.of(3, 4), 1);
        Check.due("not worn", x.of(0, 4) + x.of(2, 4) + x.of(4, 4), 0);
        Check.due("WAY 0 is gone", x.of(3, 6), 90);
        Check.due("the wet DAB is gone", x.many(3), 0);
        Check.due("what was on comes off", x.of(0, 8), -9);
        Check.due("it comes off", x.of(1, 8), -9);
        Check.due("it comes off", x.of(3, 8), -9);
        Check.due("no LADDER came", x.of(1, 6), -9);
        x.day();
        Check.due("WORN", x.of(3, 4), 2);
        x.day();
        Check.due("the next mate", x.of(4, 4), 1);
        Check.due("WORN", x.of(1, 4), 3);
        // A LADDER that is there stays as it is, though a RUNG is drawn.
        x = Check.of("plain 0 shade 0 lasts 9 ladder 2 to 2; plain 0 shade 0 lasts 9;");
        x.set(7, 10);
        x.day();
        Check.due("LOW", x.of(0, 6), 2);
        Check.due("two draws", x.seed(0), 1103527590 * 1103515245 + 12345);
        Check.due("the right one", x.of(1, 6), -9);
        // A DAB on the RUNG keeps a LADDER from it.
        x = Check.of("plain 0 shade 0 lasts 9; plain 0 shade 0 lasts 9;");
        x.set(7, 10);
        int rung = ((1103527590 * 1103515245 + 12345) >>> 16) % 100;
        x.dab(0, rung);
        Check.due("day", x.day(), 1);
        Check.due("LADDERS", x.many(2), 0);
        Check.due("the DAB", x.dabOf(0, rung), 2);
        // Nothing happens without a PAIR.
        x = Check.of("plain 0 shade 0 lasts 9; plain 0 shade 1 lasts 9; left 1; go steps 1;");
        x.snag(1, 50);
        Check.due("day", x.day(), 0);
        Check.due("on the FOOT", x.of(1, 8), 0);
        Check.due("OPEN", x.of(1, 9), 1);
        Check.due("z", x.seed(0), 1);
    }

    private static void triesMonths() {
        NylonLadder x = Check.of("plain 0 shade 0 lasts 9; plain 0 shade 0 lasts 5; plain 0 shade 0 lasts 30; left 2;"
                + "go steps 1;");
        x.set(7, 0);
        Check.due("five with 0 and 1, four with 0 and 2", x.month(30), 9);
        Check.due("month", x.month(9), 9);
        Check.due("month", x.month(8), 8);
        Check.due("month", x.month(1), 1);
        Check.due("nothing changed", x.of(0, 4), 0);
        Check.due("nothing changed", x.of(2, 8), 0);
        Check.due("z neither", x.seed(3), 1);
        for (int n : new int[] {0, 31, -1, Integer.MIN_VALUE, Integer.MAX_VALUE}) {
            Check.due("month", x.month(n), -1);
        }
        x.set(7, 10);
        int days = x.month(30);
        int lived = 0;
        for (int i = 0; i < 30; i++) {
            lived += x.day();
        }
        Check.due("month as days", days, lived);
        Check.due("none", new NylonLadder().month(30), 0);
    }
}
