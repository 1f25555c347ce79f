/** Promises 43 to 51: sheets, shelves, acts, the trace and how many there are. */
public final class HostTest {
    private static final int LEAST = Integer.MIN_VALUE, GREATEST = Integer.MAX_VALUE;

    public static void main(String[] args) {
        hasSheets();
        putsItems();
        minds();
        shelves();
        takes();
        acts();
        parts();
        countsAll();
        Check.end("HostTest");
    }

    private static void hasSheets() {
        NylonLadder x = new NylonLadder();
        Check.due("sheet", x.sheet(0, 0, 40), 1);
        Check.due("the last", x.item(0, 0, 39), 0);
        Check.due("outside", x.item(0, 0, 40), -12);
        Check.due("outside", x.item(0, 0, -1), -12);
        Check.due("outside", x.item(0, 0, LEAST), -12);
        Check.due("above 40", x.sheet(0, 0, 41), -1);
        Check.due("below 0", x.sheet(0, 0, -1), -14);
        Check.due("below 0", x.sheet(0, 3, LEAST), -14);
        Check.due("no SHEET", x.sheet(4, 0, -1), -1);
        Check.due("no SHEET", x.sheet(-1, 0, 1), -1);
        Check.due("no sort", x.sheet(0, 4, 1), -1);
        Check.due("no sort", x.sheet(0, -2, -1), -1);
        Check.due("it stays", x.item(0, 0, 39), 0);
        Check.due("an empty row", x.sheet(3, 2, 0), 1);
        Check.due("outside", x.item(3, 2, 0), -12);
        Check.due("missing", x.sheet(0, -1, GREATEST), 1);
        Check.due("missing", x.sheet(3, -1, -5), 1);
        Check.due("nothing", x.item(0, 0, 0), -11);
        Check.due("nothing", x.put(3, 0, 0), -11);
        x.sheet(1, 1, 2);
        x.put(1, 0, 5);
        x.sheet(1, 1, 2);
        Check.due("all 0", x.item(1, 1, 0), 0);
    }

    private static void putsItems() {
        NylonLadder x = new NylonLadder();
        int[] narrowed = {-128, -32768 + 128, 0x12348080, 0x12348080};
        for (int sort = 0; sort < 4; sort++) {
            x.sheet(sort, sort, 3);
            Check.due("put", x.put(sort, 1, 0x12348080), 1);
            Check.due("item", x.item(sort, sort, 1), narrowed[sort]);
            Check.due("beside", x.item(sort, sort, 0) + x.item(sort, sort, 2), 0);
            Check.due("put", x.put(sort, 2, -12), 1);
            Check.due("item", x.item(sort, sort, 2), -12);
            Check.due("outside", x.put(sort, 3, 0), -12);
            Check.due("outside", x.put(sort, -1, 0), -12);
            for (int other = 0; other < 4; other++) {
                if (other != sort) {
                    Check.due("another sort", x.item(sort, other, 9), -13);
                }
            }
            Check.due("no sort", x.item(sort, 4, 1), -1);
            Check.due("no sort", x.item(sort, -1, 1), -1);
        }
        x.put(3, 0, LEAST);
        Check.due("of a long", x.item(3, 3, 0), LEAST);
        Check.due("no SHEET", x.put(4, 0, 0), -1);
        Check.due("no SHEET", x.put(-1, 0, 0), -1);
        Check.due("no SHEET", x.item(4, 0, 0), -1);
        Check.due("no SHEET", x.item(-1, 0, 0), -1);
    }

    private static void minds() {
        NylonLadder x = new NylonLadder();
        x.sheet(0, 0, 8);
        Check.due("no STOCKING", x.minds(0, 0, 0, 0), -1);
        for (int i = 0; i < 8; i++) {
            x.stocking(0, 5, 0, 9);
            x.put(0, i, i == 7 ? -128 : 2 * i);
        }
        Check.due("minds", x.minds(0, 0, 0, 8), 8);
        int[] due = {0, 2, 4, 6, 8, 9, 9, 0};
        for (int i = 0; i < 8; i++) {
            Check.due("A of " + i, x.of(i, 1), due[i]);
        }
        Check.due("minds", x.minds(0, 3, 1, 2), 2);
        Check.due("A of 0", x.of(0, 1), 0);
        Check.due("A of 1", x.of(1, 1), 6);
        Check.due("A of 2", x.of(2, 1), 8);
        Check.due("A of 3", x.of(3, 1), 6);
        Check.due("none", x.minds(0, 8, 7, 0), 0);
        Check.due("outside for none", x.minds(0, 9, 7, 0), -12);
        Check.due("outside for none", x.minds(0, -1, 7, 0), -12);
        Check.due("not so many", x.minds(0, 7, 0, 2), -12);
        Check.due("outside", x.minds(0, GREATEST, 0, 2), -12);
        Check.due("beyond the last", x.minds(0, 0, 7, 2), -1);
        Check.due("no n", x.minds(0, 0, 0, 9), -1);
        Check.due("no n", x.minds(0, 0, 0, -1), -1);
        Check.due("no n", x.minds(0, 0, 1, GREATEST), -1);
        Check.due("no SHEET", x.minds(4, 0, 0, 1), -1);
        Check.due("no SHEET", x.minds(-1, 0, 0, 1), -1);
        Check.due("no STOCKING", x.minds(0, 0, 8, 0), -1);
        Check.due("no STOCKING", x.minds(0, 0, -1, 0), -1);
        Check.due("missing", x.minds(1, 99, 0, 1), -11);
        Check.due("BAD ahead of missing", x.minds(1, 0, 0, 9), -1);
        x.sheet(1, 1, 3);
        Check.due("shorts", x.minds(1, 99, 0, 1), -13);
        Check.due("A of 0", x.of(0, 1), 0);
        Check.due("KIND", x.of(1, 0), 0);
    }

    private static void shelves() {
        NylonLadder x = Check.of("plain 0 shade 0 lasts 9; mesh 0 shade 0 lasts 9;");
        x.sheet(0, 1, 6);
        Check.due("shelf", x.shelf(3, 0, 1), 1);
        Check.due("taken", x.taken(3, 3), 1);
        Check.due("no STOCKING", x.shelf(3, 0, 2), -1);
        Check.due("no STOCKING", x.shelf(3, 0, -1), -1);
        Check.due("no SHEET", x.shelf(3, 1, 4), -1);
        Check.due("no SHEET", x.shelf(3, 1, -1), -1);
        Check.due("no what", x.shelf(3, 3, 0), -1);
        Check.due("no what", x.shelf(3, -1, 0), -1);
        Check.due("no SHELF", x.shelf(4, 0, 0), -1);
        Check.due("no SHELF", x.shelf(-1, 2, 0), -1);
        Check.due("it stays", x.taken(3, 3), 1);
        Check.due("nothing", x.shelf(3, 2, GREATEST), 1);
        Check.due("nothing", x.taken(3, 3), -11);
        Check.due("a row", x.shelf(3, 1, 0), 1);
        Check.due("taken", x.taken(3, 11), 6);
        // The row itself: what becomes of the SHEET later doesn't touch it.
        x.sheet(0, 2, 9);
        Check.due("the row that was", x.taken(3, 11), 6);
        x.sheet(0, -1, 0);
        Check.due("the row that was", x.taken(3, 11), 6);
        Check.due("a missing one", x.shelf(3, 1, 0), 1);
        Check.due("nothing", x.taken(3, 11), -11);
        x.sheet(0, 0, 2);
        Check.due("nothing as ever", x.taken(3, 10), -11);
        // A STOCKING is held by its number.
        x.shelf(0, 0, 1);
        x.mind(1, 4, 0);
        Check.due("as it is now", x.taken(0, 4), 1);
        Check.due("drawer", Check.told(x, "old 3 shade 0 lasts 9;"), 1);
        Check.due("no such one any more", x.taken(0, 0), -11);
        Check.due("no such one any more", x.act(0, 0, 5), 0);
        x.stocking(2, 0, 0, 9);
        Check.due("one of that number", x.taken(0, 2), 1);
        x.shelf(1, 0, 0);
        x.shelf(1, 1, 0);
        Check.due("the row in its place", x.taken(1, 10), 2);
        x.shelf(1, 0, 0);
        Check.due("the STOCKING in its place", x.taken(1, 5), 0);
    }

    private static void takes() {
        NylonLadder x = Check.of("plain 0 shade 0 lasts 9; sheer 0 shade 0 lasts 9; thick 0 shade 0 lasts 9;"
                + "mesh 0 shade 0 lasts 9; lined 0 shade 0 lasts 9; old 0 shade 0 lasts 9;");
        int[] under = {0b000001, 0b000011, 0b000101, 0b001011, 0b010101, 0b100001};
        for (int kind = 0; kind < 6; kind++) {
            x.shelf(0, 0, kind);
            for (int as = 0; as < 6; as++) {
                Check.due(kind + " taken as " + as, x.taken(0, as), (under[kind] >> as & 1) == 1 ? kind : -13);
            }
            for (int as = 10; as < 14; as++) {
                Check.due("taken for a row", x.taken(0, as), -13);
            }
        }
        for (int sort = 0; sort < 4; sort++) {
            x.sheet(0, sort, sort);
            x.shelf(1, 1, 0);
            for (int as = 0; as < 6; as++) {
                Check.due("a row taken for a STOCKING", x.taken(1, as), -13);
            }
            for (int as = 10; as < 14; as++) {
                Check.due("a row taken", x.taken(1, as), as == 10 + sort ? sort : -13);
            }
        }
        for (int as : new int[] {-1, 6, 9, 14, LEAST, GREATEST}) {
            Check.due("no such as", x.taken(0, as), -1);
            Check.due("no such as", x.taken(2, as), -1);
        }
        Check.due("no SHELF", x.taken(4, 0), -1);
        Check.due("no SHELF", x.taken(-1, 10), -1);
        Check.due("nothing", x.taken(2, 0), -11);
        Check.due("nothing", x.taken(2, 13), -11);
    }

    private static void acted(NylonLadder x, String call, int got, int want, int... bodies) {
        Check.due(call, got, want);
        Check.due(call + ": bodies", x.many(6), bodies.length);
        for (int i = 0; i < bodies.length; i++) {
            Check.due(call + ": body " + i, x.trace(i), bodies[i]);
        }
        Check.due(call + ": beyond", x.trace(bodies.length), -3);
        Check.due(call + ": below", x.trace(-1), -3);
    }

    private static void acts() {
        NylonLadder x = Check.of("plain 4 shade 0 lasts 9; sheer 4 shade 0 lasts 9; thick 4 shade 0 lasts 9;"
                + "mesh 8 shade 0 lasts 9; lined 6 shade 0 lasts 9; old 9 shade 0 lasts 9;");
        x.shelf(0, 0, 0);
        acted(x, "plain runs", x.act(0, 0, 7), 7, 10);
        acted(x, "plain dries", x.act(0, 1, 7), 14, 11, 10);
        acted(x, "plain holds", x.act(0, 2, 7), 1, 12);
        acted(x, "plain holds", x.act(0, 2, -7), -1, 12);
        acted(x, "plain tells", x.act(0, 3, 7), 14 ^ 4, 13, 11, 10);
        acted(x, "ints wrap", x.act(0, 1, GREATEST), -2, 11, 10);
        x.shelf(0, 0, 1);
        acted(x, "sheer runs", x.act(0, 0, 7), 8, 10);
        acted(x, "sheer dries", x.act(0, 1, 7), 12, 20, 11, 10);
        acted(x, "sheer holds", x.act(0, 2, 7), 2, 12);
        acted(x, "sheer tells", x.act(0, 3, 7), 12 ^ 4, 13, 20, 11, 10);
        x.shelf(0, 0, 2);
        acted(x, "thick runs", x.act(0, 0, 7), 27, 30, 10);
        acted(x, "thick dries", x.act(0, 1, 7), 54, 11, 30, 10);
        acted(x, "thick tells", x.act(0, 3, 7), (54 ^ 4) + 1, 31, 13, 11, 30, 10, 12);
        x.shelf(0, 0, 3);
        acted(x, "mesh runs", x.act(0, 0, 7), 7, 51, 10);
        acted(x, "mesh dries", x.act(0, 1, 7), 6, 20, 11, 51, 10);
        acted(x, "mesh holds", x.act(0, 2, 9), 2 ^ 1, 50, 12);
        acted(x, "mesh holds", x.act(0, 2, 12), 2 ^ 1, 50, 12);
        acted(x, "mesh holds", x.act(0, 2, 13), 3 ^ 1, 50, 12);
        acted(x, "mesh tells", x.act(0, 3, 7), 6 ^ 8, 13, 20, 11, 51, 10);
        x.shelf(0, 0, 4);
        acted(x, "lined runs", x.act(0, 0, 7), -33, 40, 30, 10);
        acted(x, "lined dries", x.act(0, 1, 7), -90, 41, 11, 40, 30, 10, 40, 30, 10);
        acted(x, "lined holds", x.act(0, 2, 7), 3, 12);
        acted(x, "lined tells", x.act(0, 3, 7), (-90 ^ 6) + 2, 31, 13, 41, 11, 40, 30, 10, 40, 30, 10, 12);
        x.shelf(0, 0, 5);
        acted(x, "old runs", x.act(0, 0, 7), 12, 10);
        acted(x, "old dries", x.act(0, 1, 7), 24, 11, 10);
        acted(x, "old holds", x.act(0, 2, 7), 1 + 14, 61, 12, 10);
        acted(x, "old tells", x.act(0, 3, 7), (24 ^ 9) * 2, 60, 13, 11, 10);

        acted(x, "no act", x.act(0, 4, 7), 0);
        x.act(0, 0, 7);
        acted(x, "no act", x.act(0, -1, 7), 0);
        x.act(0, 0, 7);
        acted(x, "no SHELF", x.act(4, 0, 7), 0);
        x.act(0, 0, 7);
        acted(x, "no SHELF", x.act(LEAST, 0, 7), 0);
        x.act(0, 0, 7);
        acted(x, "nothing", x.act(1, 0, 7), 0);
        x.act(0, 0, 7);
        x.sheet(0, 0, 3);
        x.shelf(1, 1, 0);
        acted(x, "a row", x.act(1, 0, 7), 0);
        Check.due("no such body", x.trace(GREATEST), -3);
        Check.due("no such body", x.trace(LEAST), -3);
    }

    private static void parts() {
        NylonLadder x = Check.of("plain 0 shade 0 lasts 9; sheer 1 shade 0 lasts 9; thick 2 shade 0 lasts 9;"
                + "mesh 3 shade 0 lasts 9; lined 4 shade 0 lasts 9; old 5 shade 0 lasts 9; plain 5 shade 0 lasts 9;");
        x.shelf(0, 0, 0);
        acted(x, "plain", x.act(0, 2, 7), -15, 12);
        acted(x, "plain tells", x.act(0, 3, 7), 14, 13, 11, 10);
        x.shelf(0, 0, 2);
        acted(x, "thick tells", x.act(0, 3, 7), -15, 31, 13, 11, 30, 10, 12);
        x.shelf(0, 0, 3);
        acted(x, "mesh", x.act(0, 2, 7), -15, 50, 12);
        x.shelf(0, 0, 4);
        acted(x, "lined tells", x.act(0, 3, 7), -15, 31, 13, 41, 11, 40, 30, 10, 40, 30, 10, 12);
        x.shelf(0, 0, 5);
        acted(x, "old", x.act(0, 2, 7), -15, 61, 12);
        x.shelf(0, 0, 6);
        acted(x, "the least by -1", x.act(0, 2, LEAST), LEAST, 12);
        acted(x, "cut towards 0", x.act(0, 2, -3), 3, 12);
        acted(x, "x may be 15", x.act(0, 2, 15), -15, 12);
        x.mind(5, 5, 2);
        x.shelf(0, 0, 5);
        acted(x, "cut towards 0", x.act(0, 2, 8), -2 + 7, 61, 12, 10);
    }

    private static void countsAll() {
        NylonLadder x = Check.of("plain 0 shade 0 lasts 9 ladder 5 to 9; thick 1 shade 0 lasts 9; left 0;"
                + "go steps 1, steps 2; cab steps 3;");
        x.dab(0, 20);
        x.dab(1, 20);
        x.dab(1, 21);
        x.prove(0, 0);
        x.feed(32, 1);
        x.shelf(0, 0, 1);
        x.act(0, 1, 1);
        int[] due = {2, 3, 1, 3, 2, 1, 3};
        for (int what = 0; what < 7; what++) {
            Check.due("many(" + what + ")", x.many(what), due[what]);
        }
        for (int what : new int[] {-1, 7, LEAST, GREATEST}) {
            Check.due("another what", x.many(what), -1);
        }
    }
}
