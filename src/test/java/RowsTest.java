/** Promises 39 to 42: rows and the reader. */
public final class RowsTest {
    public static void main(String[] args) {
        proves();
        alters();
        judges();
        Check.end("RowsTest");
    }

    private static void proves() {
        NylonLadder x = Check.of("plain 0 shade 0 lasts 9 ladder 50 to 50; sheer 0 shade 0 lasts 9; left 0; right 1;"
                + "go steps 4, stands 2, sits 7; cab stairs 1;");
        Check.due("no ROWS", x.row(0, 0), -9);
        Check.due("prove", x.prove(0, 0), 3);
        int[][] due = {{0, 38, 50}, {1, 38, 50}, {2, 28, 60}};
        for (int i = 0; i < 3; i++) {
            for (int what = 0; what < 3; what++) {
                Check.due("row(" + i + ", " + what + ")", x.row(i, what), due[i][what]);
            }
        }
        Check.due("none such", x.row(3, 0), -9);
        Check.due("none such", x.row(-1, 0), -9);
        Check.due("none such", x.row(Integer.MAX_VALUE, 0), -9);
        Check.due("another what", x.row(0, 3), -9);
        Check.due("another what", x.row(0, -1), -9);
        Check.due("nothing changed", x.of(0, 9), 1);
        Check.due("no FOOT", x.prove(2, 0), -1);
        Check.due("no WAY", x.prove(0, 2), -1);
        x.wear(0, -1);
        Check.due("BAD ahead of NONE", x.prove(0, -1), -1);
        Check.due("nothing on it", x.prove(0, 0), -3);
        Check.due("ROWS stay", x.many(4), 3);
        Check.due("one without a LADDER", x.prove(1, 1), 1);
        Check.due("LEG", x.row(0, 0), 0);
        Check.due("LOW", x.row(0, 1), -9);
        Check.due("HIGH", x.row(0, 2), -9);
        Check.due("ROWS", x.many(4), 1);
        Check.due("none such", x.row(1, 0), -9);
        x.clear(1);
        Check.due("no LEGS", x.prove(1, 1), 0);
        Check.due("ROWS", x.many(4), 0);
    }

    private static void alters() {
        NylonLadder x = Check.of("plain 0 shade 0 lasts 9 ladder 50 to 50; left 0; go steps 4, stands 2;");
        Check.due("none", x.alterRow(0, 0, 5), -9);
        x.prove(0, 0);
        Check.due("alter", x.alterRow(1, 0, Integer.MIN_VALUE), 1);
        Check.due("alter", x.alterRow(1, 1, Integer.MAX_VALUE), 38);
        Check.due("alter", x.alterRow(1, 2, -9), 50);
        Check.due("row", x.row(1, 0), Integer.MIN_VALUE);
        Check.due("row", x.row(1, 1), Integer.MAX_VALUE);
        Check.due("row", x.row(1, 2), -9);
        Check.due("alter", x.alterRow(1, 2, 4), -9);
        Check.due("row", x.row(1, 2), 4);
        Check.due("another what", x.alterRow(1, 3, 4), -9);
        Check.due("another what", x.alterRow(1, -1, 4), -9);
        Check.due("none such", x.alterRow(2, 0, 4), -9);
        Check.due("none such", x.alterRow(-1, 0, 4), -9);
        Check.due("the other ROW", x.row(0, 1), 38);
    }

    private static void judges() {
        NylonLadder x = Check.of("plain 0 shade 0 lasts 9 ladder 50 to 50; plain 0 shade 0 lasts 9 ladder 50 to 50;"
                + "left 0; right 1; go steps 4, stands 2, sits 7; cab steps 4;");
        Check.due("no ROWS", x.judge(0, 0), 0);
        Check.due("no FOOT", x.judge(2, 0), -1);
        Check.due("no WAY", x.judge(0, 2), -1);
        x.prove(0, 0);
        Check.due("right", x.judge(0, 0), 0);
        Check.due("for the other one as well", x.judge(1, 0), 0);
        Check.due("no LEG for it", x.judge(0, 1), 2);
        for (int i = 0; i < 3; i++) {
            for (int what = 0; what < 3; what++) {
                int was = x.alterRow(i, what, 77);
                Check.due("wrong", x.judge(0, 0), i + 1);
                x.alterRow(i, what, was);
                Check.due("right again", x.judge(0, 0), 0);
            }
        }
        x.alterRow(2, 0, 0);
        x.alterRow(1, 1, 0);
        Check.due("the first wrong one", x.judge(0, 0), 2);
        x.prove(0, 1);
        Check.due("fewer ROWS than LEGS", x.judge(0, 0), 0);
        x.mind(0, 1, 0);
        Check.due("of another KIND", x.judge(0, 1), 1);
        x.wear(1, -1);
        Check.due("nothing on it", x.judge(1, 1), -3);
        Check.due("BAD ahead of NONE", x.judge(1, 2), -1);
        x.clear(1);
        Check.due("no LEGS", x.judge(0, 1), 1);
        Check.due("nothing changed", x.of(0, 9), 1);
        // Without a LADDER each ROW has -9 and -9.
        x = Check.of("plain 0 shade 0 lasts 9; left 0; go steps 4;");
        x.prove(0, 0);
        Check.due("right", x.judge(0, 0), 0);
        x.snag(0, 3);
        Check.due("wrong", x.judge(0, 0), 1);
    }
}
