/** Promises 52 and 53: keep and again. */
public final class KeptTest {
    public static void main(String[] args) {
        NylonLadder x = Check.of("old 3 shade 2 lasts 9 ladder 50 to 55; thick 1 shade 0 lasts 9; left 0; right 1;"
                + "go steps 4, stands 2; cab sits 3; step 5;");
        x.set(6, 7);
        x.dab(0, 20);
        x.turn(0, 2);
        x.seed(-9);
        Check.due("nothing is kept", x.again(), -3);
        Check.due("STEP is as it was", x.lawOf(0), 5);
        Check.due("keep", x.keep(), 1);
        changeAll(x);
        Check.due("again", x.again(), 2);
        isAsKept(x);
        hasTheRest(x);
        changeAll(x);
        x.go(0);
        Check.due("what is kept stays", x.again(), 2);
        isAsKept(x);
        keepsTheLatest();
        keepsNothingAtAll();
        Check.end("KeptTest");
    }

    private static void changeAll(NylonLadder x) {
        x.drawer();
        Check.told(x, "plain 0 shade 0 lasts 1; go sits 9, sits 8, sits 7; bend 1; left 0;");
        x.set(2, 1);
        x.snag(0, 4);
        x.seed(4);
        x.prove(0, 0);
        x.sheet(2, 1, 5);
        x.shelf(2, 1, 2);
        x.shelf(1, 0, 0);
        x.act(1, 1, 5);
        x.feed(0x2020, 2);
    }

    private static void isAsKept(NylonLadder x) {
        int[][] due = {{5, 3, 2, 9, 0, 2, 50, 55, 0, 6}, {2, 1, 0, 9, 0, 0, -9, -9, 1, 0}};
        for (int i = 0; i < 2; i++) {
            for (int what = 0; what < 10; what++) {
                Check.due("of(" + i + ", " + what + ")", x.of(i, what), due[i][what]);
            }
        }
        int[] laws = {5, 10, 2, 8, 60, 2, 7, 2};
        for (int law = 0; law < 8; law++) {
            Check.due("lawOf(" + law + ")", x.lawOf(law), laws[law]);
        }
        Check.due("the DAB", x.dabOf(0, 20), 2);
        Check.due("DABS", x.many(3), 1);
        Check.due("LEGS", x.many(1), 3);
        Check.due("MINUTES", x.minutes(0), 3);
        Check.due("MINUTES", x.minutes(1), 3);
        Check.due("LEG", x.legOf(0, 1, 0), 3);
        Check.due("LEG", x.legOf(1, 0, 1), 3);
        Check.due("z", x.seed(-9), -9);
    }

    private static void hasTheRest(NylonLadder x) {
        Check.due("ROWS", x.many(4), 3);
        Check.due("ROW", x.row(2, 0), 2);
        Check.due("THE TAPE", x.many(5), 2);
        Check.due("THE TRACE", x.many(6), 2);
        Check.due("THE TRACE", x.trace(0), 11);
        Check.due("SHEET", x.item(2, 1, 4), 0);
        Check.due("SHELF", x.taken(2, 11), 5);
        Check.due("SHELF", x.taken(1, 5), 0);
    }

    private static void keepsTheLatest() {
        NylonLadder x = new NylonLadder();
        x.keep();
        x.stocking(0, 0, 0, 5);
        x.keep();
        x.stocking(1, 0, 0, 5);
        x.stocking(1, 0, 0, 5);
        Check.due("the latest", x.again(), 1);
        Check.due("KIND", x.of(0, 0), 0);
        Check.due("no other", x.of(1, 0), -1);
        x.mind(0, 3, 3);
        Check.due("again", x.again(), 1);
        Check.due("KIND as kept", x.of(0, 0), 0);
    }

    private static void keepsNothingAtAll() {
        NylonLadder x = new NylonLadder();
        Check.due("keep", x.keep(), 1);
        x.stocking(0, 0, 0, 5);
        x.wear(0, 0);
        Check.due("an empty drawer is kept, too", x.again(), 0);
        Check.due("STOCKINGS", x.many(0), 0);
        Check.due("bare feet", x.wear(0, -1), -9);
    }
}
