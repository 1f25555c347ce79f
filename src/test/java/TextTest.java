/** Promises 2 (feed) and 3 (drawer). */
public final class TextTest {
    private static void fault(String text, int place) {
        NylonLadder x = new NylonLadder();
        Check.due("'" + text + "'", Check.told(x, text), -100 - place);
    }

    private static void right(String text, int stockings) {
        NylonLadder x = new NylonLadder();
        Check.due("'" + text + "'", Check.told(x, text), stockings);
    }

    public static void main(String[] args) {
        feeds();
        tells();
        isAllByItself();
        changesNothingByAFault();
        takesMoreOrLessBlanks();
        findsFaultsOfStockings();
        findsFaultsOfFeetAndLaws();
        findsFaultsOfWays();
        holdsLimits();
        Check.end("TextTest");
    }

    private static void feeds() {
        NylonLadder x = new NylonLadder();
        Check.due("feed 0 bytes", x.feed(0, 0), -1);
        Check.due("feed 9 bytes", x.feed(0, 9), -1);
        Check.due("feed -1 bytes", x.feed(0, -1), -1);
        Check.due("feed least", x.feed(0, Integer.MIN_VALUE), -1);
        Check.due("feed greatest", x.feed(0, Integer.MAX_VALUE), -1);
        Check.due("tape", x.many(5), 0);
        for (int i = 1; i <= 24; i++) {
            Check.due("feed 8 bytes", x.feed(0x2020202020202020L, 8), 8 * i);
        }
        Check.due("feed 7", x.feed(0x2020202020202020L, 7), 199);
        Check.due("feed 2 beyond 200", x.feed(0x2020202020202020L, 2), -2);
        Check.due("feed 9 beyond 200", x.feed(0x2020202020202020L, 9), -1);
        Check.due("tape", x.many(5), 199);
        Check.due("feed 1", x.feed(0x7b, 1), 200);
        Check.due("feed 1 beyond 200", x.feed(0, 1), -2);
        Check.due("the last byte", x.drawer(), -299);
        Check.due("tape is used up", x.many(5), 0);
        Check.due("an empty tape", x.drawer(), 0);
        // "step 4;", lowest byte first, and what stands above n bytes counts nothing.
        Check.due("feed", x.feed(0xff3b342070657473L, 7), 7);
        Check.due("drawer", x.drawer(), 0);
        Check.due("STEP", x.lawOf(0), 4);
    }

    private static void tells() {
        NylonLadder x = Check.of("plain 1 shade 2 lasts 3 ladder 4 to 99; sheer 0 shade 0 lasts 30;"
                + "thick 9 shade 3 lasts 1 ladder 0 to 0;mesh 2 shade 1 lasts 9; lined 3 shade 1 lasts 8;");
        int[][] due = {{0, 1, 2, 3, 0, 0, 4, 99, -9, 96}, {1, 0, 0, 30, 0, 0, -9, -9, -9, 0},
            {2, 9, 3, 1, 0, 0, 0, 0, -9, 1}, {3, 2, 1, 9, 0, 0, -9, -9, -9, 0},
            {4, 3, 1, 8, 0, 0, -9, -9, -9, 0}};
        for (int i = 0; i < due.length; i++) {
            for (int what = 0; what < 10; what++) {
                Check.due("of(" + i + ", " + what + ")", x.of(i, what), due[i][what]);
            }
        }
        x = Check.of("old 7 shade 0 lasts 5; plain 0 shade 0 lasts 1; right 0; left 1; step 9; bend 20;"
                + "go steps 60, stairs 1, sits 30, stands 5; cab stands 7;");
        Check.due("KIND", x.of(0, 0), 5);
        Check.due("on the right", x.of(0, 8), 1);
        Check.due("on the left", x.of(1, 8), 0);
        Check.due("STEP", x.lawOf(0), 9);
        Check.due("BEND", x.lawOf(1), 20);
        int[][] legs = {{0, 60}, {1, 1}, {2, 30}, {3, 5}};
        for (int i = 0; i < legs.length; i++) {
            Check.due("LEG " + i, x.legOf(0, i, 0), legs[i][0]);
            Check.due("N of LEG " + i, x.legOf(0, i, 1), legs[i][1]);
        }
        Check.due("LEGS of both", x.many(1), 5);
        Check.due("cab", x.legOf(1, 0, 0), 3);
        Check.due("cab", x.legOf(1, 0, 1), 7);
    }

    private static void isAllByItself() {
        NylonLadder x = Check.of("plain 0 shade 0 lasts 9; left 0; go steps 1; cab steps 1;");
        for (int law = 2; law < 8; law++) {
            x.set(law, law == 4 ? 99 : 1);
        }
        x.set(0, 0);
        x.set(1, 0);
        x.seed(77);
        x.dab(0, 5);
        x.turn(0, 3);
        Check.due("prove", x.prove(0, 0), 1);
        Check.due("drawer", Check.told(x, "mesh 0 shade 0 lasts 9;"), 1);
        int[] laws = {3, 10, 2, 8, 60, 2, 190, 2};
        for (int law = 0; law < 8; law++) {
            Check.due("LAW " + law + " is as at first", x.lawOf(law), laws[law]);
        }
        Check.due("no LEGS", x.many(1), 0);
        Check.due("no DABS", x.many(3), 0);
        Check.due("no ROWS", x.many(4), 0);
        Check.due("front", x.of(0, 5), 0);
        Check.due("no FOOT", x.of(0, 8), -9);
        Check.due("z stays", x.seed(0), 77);
        // In place of the LEGS told ahead; what was on the FOOT comes off.
        x = Check.of("go steps 1, steps 2; go sits 3; plain 0 shade 0 lasts 9; plain 1 shade 0 lasts 9;"
                + "left 0; left 1; right 0; step 1; step 2;");
        Check.due("LEGS", x.many(1), 1);
        Check.due("the LEG", x.legOf(0, 0, 0), 2);
        Check.due("FOOT of 0", x.of(0, 8), 1);
        Check.due("FOOT of 1", x.of(1, 8), 0);
        Check.due("STEP", x.lawOf(0), 2);
    }

    private static void changesNothingByAFault() {
        NylonLadder x = Check.of("plain 0 shade 0 lasts 9 ladder 3 to 4; left 0; go steps 1;");
        Check.due("prove", x.prove(0, 0), 1);
        Check.due("a fault", Check.told(x, "sheer 0 shade 0 lasts 9; step 9; go sits 2, sits 3; left 7;"), -157);
        Check.due("STOCKINGS", x.many(0), 1);
        Check.due("KIND", x.of(0, 0), 0);
        Check.due("HIGH", x.of(0, 7), 4);
        Check.due("FOOT", x.of(0, 8), 0);
        Check.due("STEP", x.lawOf(0), 3);
        Check.due("LEGS", x.many(1), 1);
        Check.due("ROWS", x.many(4), 1);
        Check.due("tape", x.many(5), 0);
    }

    private static void takesMoreOrLessBlanks() {
        right("", 0);
        right("   ", 0);
        right(" plain  1 shade 02   lasts 03 ladder 04 to 04 ;  ", 1);
        right("step 0;bend 00;go steps 1,stairs 01 , sits 60;", 0);
        right("plain1shade2lasts3ladder4to5;left0;go steps1,sits2;", 1);
        fault("plain\t1 shade 0 lasts 1;", 5);
        fault("step 1\n;", 6);
        fault("gosteps 1;", 0);
        fault("pl ain 1 shade 0 lasts 1;", 0);
        fault("step 1 1;", 7);
        fault("Step 1;", 0);
        fault("step " + (char) 200 + ";", 5);
        fault("  " + (char) 0, 2);
    }

    private static void findsFaultsOfStockings() {
        String text = "plain 1 shade 2 lasts 3 ladder 4 to 5;";
        int[] ends = {5, 7, 13, 15, 21, 23, 30, 32, 35, 37};
        for (int end : ends) {
            fault(text.substring(0, end), end);
            fault(text.substring(0, end) + "  ", end + 2);
        }
        fault("silk 1 shade 2 lasts 3;", 0);
        fault("xlain 1 shade 2 lasts 3;", 0);
        fault("plains 1 shade 2 lasts 3;", 0);
        fault("plai 1 shade 2 lasts 3;", 0);
        fault("plain 10 shade 2 lasts 3;", 6);
        fault("plain 001 shade 2 lasts 3;", 6);
        fault("plain x shade 2 lasts 3;", 6);
        fault("plain -1 shade 2 lasts 3;", 6);
        fault("plain 1 shad 2 lasts 3;", 8);
        fault("plain 1 shade 4 lasts 3;", 14);
        fault("plain 1 shade 2 last 3;", 16);
        fault("plain 1 shade 2 lasts 0;", 22);
        fault("plain 1 shade 2 lasts 31;", 22);
        fault("plain 1 shade 2 lasts 3,", 23);
        fault("plain 1 shade 2 lasts 3 lad 1 to 2;", 24);
        fault("plain 1 shade 2 lasts 3 ladder 100 to 2;", 31);
        fault("plain 1 shade 2 lasts 3 ladder 5 to 4;", 36);
        fault("plain 1 shade 2 lasts 3 ladder 5 5;", 33);
        fault("plain 1 shade 2 lasts 3 ladder 5 to 100;", 36);
        fault("plain 1 shade 2 lasts 3 ladder;", 30);
        fault(";", 0);
        fault("5", 0);
    }

    private static void findsFaultsOfFeetAndLaws() {
        String one = "old 1 shade 2 lasts 3;";
        fault("left 0;", 5);
        fault("left 0;" + one, 5);
        fault(one + "left 1;", 27);
        fault(one + "left 0; right 0;", 36);
        fault(one + "left 0; left 0;", 35);
        fault(one + "right 000;", 28);
        fault(one + "left;", 26);
        fault(one + "left 0", 28);
        fault("step 10;", 5);
        fault("step;", 4);
        fault("bend 21;", 5);
        fault("bend 2", 6);
        fault("bend 3333333333333333333;", 5);
        fault("hem 50;", 0);
        right("step 9; bend 20;", 0);
    }

    private static void findsFaultsOfWays() {
        fault("go;", 2);
        fault("go", 2);
        fault("go step 1;", 3);
        fault("go steps 0;", 9);
        fault("go steps 61;", 9);
        fault("go steps 1,;", 11);
        fault("go steps 1 steps 2;", 11);
        fault("go steps 1,", 11);
        fault("cab stands;", 10);
        fault("cab sit 3;", 4);
        fault("cab xteps 3;", 4);
        fault("Cab steps 3;", 0);
        fault("cab stair 3;", 4);
        fault("cab stand 3;", 4);
    }

    private static void holdsLimits() {
        StringBuilder eight = new StringBuilder();
        for (int i = 0; i < 8; i++) {
            eight.append("old 1 shade 2 lasts 3;");
        }
        right(eight.toString(), 8);
        fault(eight + "x", 176);
        fault(eight + " old 1 shade 2 lasts 3;", 177);
        String ten = "go sits 1,sits 2,sits 3,sits 4,sits 5,sits 6,sits 7,sits 8,sits 9,sits 10";
        right(ten + ";", 0);
        right(ten + "; " + "cab" + ten.substring(2) + ";", 0);
        fault(ten + ", sits 11;", 75);
        fault(ten + "; cab" + ten.substring(2) + ",stands 1;", 150);
    }
}
