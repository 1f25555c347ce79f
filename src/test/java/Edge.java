import java.util.ArrayList;
import java.util.HashMap;
import java.util.LinkedHashMap;
import java.util.List;
import java.util.Map;

/**
 * What the tests of edges share: each asks one call of an object made anew, under the sentence
 * of the document that it holds, and looks at all that such a call could have changed.
 */
final class Edge {
    interface Making {
        void make(NylonLadder x);
    }

    interface Call {
        long of(NylonLadder x);
    }

    interface CallWith {
        long of(NylonLadder x, int v);
    }

    private static final int LEAST = Integer.MIN_VALUE, GREATEST = Integer.MAX_VALUE;
    /** Numbers that a mask, a narrowing or a shift could take for smaller ones. */
    private static final int[] WILD = {LEAST, LEAST + 1, -65536, -257, -256, -100, -10, -2, -1, 64, 101, 128, 256, 257,
        512, 1001, 65536, 65537, GREATEST - 1, GREATEST};

    static final Making NEW = x -> { };
    /** Some of each thing: four STOCKINGS, ROWS, SHEETS of three sorts, and something else kept. */
    static final Making SOME = Edge::makeSome;
    /** As much of each thing as there may be. */
    static final Making FULL = Edge::makeFull;

    private static final Map<Making, Map<String, Long>> seenOf = new HashMap<>();

    private Edge() {
    }

    private static void makeSome(NylonLadder x) {
        Check.told(x, "sheer 4 shade 1 lasts 9 ladder 30 to 33;plain 2 shade 1 lasts 5 ladder 98 to 99;"
                + "old 3 shade 0 lasts 9;left 0;right 1;go steps 4,stands 3,sits 7;cab stairs 9,stands 1;step 4;bend 6;");
        x.dab(0, 20);
        x.dab(2, 0);
        x.turn(1, 3);
        x.seed(-5);
        x.keep();
        x.set(2, 4);
        x.set(6, 100);
        x.dab(0, 40);
        x.turn(0, 2);
        x.leg(1, 0, 5);
        x.stocking(3, 9, 2, 30);
        x.seed(Integer.MAX_VALUE);
        x.prove(0, 0);
        x.alterRow(1, 1, 55);
        x.sheet(0, 0, 6);
        x.put(0, 2, -3);
        x.sheet(1, 3, 40);
        x.put(1, 39, 77);
        x.sheet(2, 2, 0);
        x.shelf(0, 0, 3);
        x.shelf(1, 1, 0);
        x.shelf(2, 0, 1);
        x.act(0, 3, 11);
        Check.feed(x, "thick 1 shade 0 lasts 2;");
    }

    private static void makeFull(NylonLadder x) {
        for (int i = 0; i < 8; i++) {
            x.stocking(i % 6, i, i % 4, 1 + i);
            x.dab(i, 10 + i);
            x.dab(i, 90 + i);
        }
        x.snag(0, 50);
        x.snag(7, 99);
        x.wear(0, 0);
        x.wear(1, 6);
        for (int i = 0; i < 10; i++) {
            x.leg(0, i % 4, 1 + i);
            x.leg(1, 3 - i % 4, 60 - i);
        }
        x.prove(0, 0);
        for (int i = 0; i < 4; i++) {
            x.sheet(i, i, 40);
            x.put(i, i, -12);
            x.shelf(i, 1, i);
        }
        x.shelf(3, 0, 4);
        x.act(3, 3, 5);
        x.keep();
        StringBuilder text = new StringBuilder("step 7;");
        while (text.length() < 200) {
            text.append(' ');
        }
        Check.feed(x, text.toString());
    }

    private static NylonLadder made(Making making, Call call) {
        NylonLadder x = new NylonLadder();
        making.make(x);
        if (call != null) {
            call.of(x);
        }
        return x;
    }

    /** What a call answers. */
    static void due(String sentence, Making making, Call call, long want) {
        Check.due(sentence, call.of(made(making, null)), want);
    }

    /** What a call answers, and that it changes nothing. */
    static void still(String sentence, Making making, Call call, long want) {
        changes(sentence, making, call, want);
    }

    /** That a call changes nothing, whatever it answers. */
    static void asks(String sentence, Making making, Call call) {
        still(sentence, making, call, call.of(made(making, null)));
    }

    /** What a call answers, and that it changes only what one of these begins the name of. */
    static void changes(String sentence, Making making, Call call, long want, String... names) {
        due(sentence, making, call, want);
        Map<String, Long> ahead = seenOf.computeIfAbsent(making, m -> seen(m, null));
        Map<String, Long> behind = seen(making, call);
        for (Map.Entry<String, Long> entry : ahead.entrySet()) {
            boolean mayChange = false;
            for (String name : names) {
                mayChange |= entry.getKey().startsWith(name);
            }
            Long now = behind.get(entry.getKey());
            if (!mayChange && !entry.getValue().equals(now)) {
                Check.holds(sentence + ": " + entry + " becomes " + now, false);
            }
        }
    }

    /** The least and the greatest number that are taken; all beyond are refused and change nothing. */
    static void range(String sentence, Making making, CallWith call, int least, long dueLeast, int greatest,
            long dueGreatest) {
        due(sentence + ": " + least, making, x -> call.of(x, least), dueLeast);
        due(sentence + ": " + greatest, making, x -> call.of(x, greatest), dueGreatest);
        for (int v : beyond(least, greatest)) {
            still(sentence + ": " + v, making, x -> call.of(x, v), NylonLadder.BAD);
        }
    }

    /** As range(), where the least and the greatest number are refused otherwise or answered somehow. */
    static void onlyWithin(String sentence, Making making, CallWith call, int least, int greatest) {
        for (int v : new int[] {least, greatest}) {
            Check.holds(sentence + ": " + v, call.of(made(making, null), v) != NylonLadder.BAD);
        }
        for (int v : beyond(least, greatest)) {
            still(sentence + ": " + v, making, x -> call.of(x, v), NylonLadder.BAD);
        }
    }

    static List<Integer> beyond(int least, int greatest) {
        List<Integer> beyond = new ArrayList<>(List.of(least - 1, greatest + 1));
        for (int wild : WILD) {
            if ((wild < least || wild > greatest) && !beyond.contains(wild)) {
                beyond.add(wild);
            }
        }
        return beyond;
    }

    /**
     * All that can be seen of an object behind a call, by name. Each object is asked for a part
     * only, so that it stays within its 512 calls.
     */
    private static Map<String, Long> seen(Making making, Call call) {
        Map<String, Long> seen = new LinkedHashMap<>();
        NylonLadder x = made(making, call);
        seeRows(x, seen);
        seeDrawer(x, "", seen);
        seeHost(made(making, call), seen);
        x = made(making, call);
        seen.put("drawer()", (long) x.drawer());
        seeDrawer(x, "told: ", seen);
        x = made(making, call);
        int kept = x.again();
        seen.put("again()", (long) kept);
        if (kept >= 0) {
            seeDrawer(x, "kept: ", seen);
        }
        for (int first = 0; first < 8; first += 2) {
            seeDabs(made(making, call), first, "", seen);
            x = made(making, call);
            if (x.again() >= 0) {
                seeDabs(x, first, "kept: ", seen);
            }
        }
        return seen;
    }

    private static void seeRows(NylonLadder x, Map<String, Long> seen) {
        for (int i = 0; i < 10; i++) {
            for (int what = 0; what < 3; what++) {
                seen.put("row(" + i + ", " + what + ")", (long) x.row(i, what));
            }
        }
        for (int i = 0; i < 12; i++) {
            seen.put("trace(" + i + ")", (long) x.trace(i));
        }
        for (int what = 4; what < 7; what++) {
            seen.put("many(" + what + ")", (long) x.many(what));
        }
    }

    private static void seeDrawer(NylonLadder x, String of, Map<String, Long> seen) {
        for (int law = 0; law < 8; law++) {
            seen.put(of + "lawOf(" + law + ")", (long) x.lawOf(law));
        }
        for (int i = 0; i < 8; i++) {
            for (int what = 0; what < 10; what++) {
                seen.put(of + "of(" + i + ", " + what + ")", (long) x.of(i, what));
            }
        }
        for (int way = 0; way < 2; way++) {
            for (int i = 0; i < 10; i++) {
                seen.put(of + "legOf(" + way + ", " + i + ", 0)", (long) x.legOf(way, i, 0));
                seen.put(of + "legOf(" + way + ", " + i + ", 1)", (long) x.legOf(way, i, 1));
            }
        }
        for (int what = 0; what < 4; what++) {
            seen.put(of + "many(" + what + ")", (long) x.many(what));
        }
        seen.put(of + "z", (long) x.seed(0));
    }

    private static void seeHost(NylonLadder x, Map<String, Long> seen) {
        for (int sheet = 0; sheet < 4; sheet++) {
            int sort = 0;
            while (sort < 4 && x.item(sheet, sort, 40) != -12) {
                sort++;
            }
            seen.put("SHEET " + sheet, (long) sort);
            for (int i = 0; i < 40 && sort < 4; i++) {
                seen.put("SHEET " + sheet + " at " + i, (long) x.item(sheet, sort, i));
            }
        }
        for (int shelf = 0; shelf < 4; shelf++) {
            for (int as = 0; as < 14; as++) {
                seen.put("SHELF " + shelf + " as " + as, (long) x.taken(shelf, as));
            }
        }
    }

    private static void seeDabs(NylonLadder x, int first, String of, Map<String, Long> seen) {
        for (int i = first; i < first + 2; i++) {
            for (int rung = 0; rung < 100; rung++) {
                seen.put(of + "dabOf(" + i + ", " + rung + ")", (long) x.dabOf(i, rung));
            }
        }
    }
}
