/**
 * The edges that the document names for promises 29 to 38: GOOD ones and PAIRS, what a WEARING
 * costs, SINCE and FROM, DRAWS that wrap, DAYS and MONTHS.
 */
public final class PairsEdgesTest {
    private static final int BAD = -1, NONE = -3;
    private static final int LEAST = Integer.MIN_VALUE, GREATEST = Integer.MAX_VALUE;

    public static void main(String[] args) {
        good();
        goodByRungs();
        pairs();
        mate();
        costNumbers();
        fractions();
        fractionsOfWornOnes();
        worth();
        sinceNumbers();
        since();
        fromNumbers();
        from();
        seed();
        drawsThatWrap();
        snagByDraws();
        rungByDraws();
        laddersByDraws();
        days();
        noPair();
        month();
        Check.end("PairsEdgesTest");
    }

    private static String one(String kind, int a, int shade, int lasts) {
        return kind + " " + a + " shade " + shade + " lasts " + lasts + ";";
    }

    private static String open(int low, int high) {
        return "plain 0 shade 0 lasts 9 ladder " + low + " to " + high + ";";
    }

    private static int drawn(int z) {
        return z * 1103515245 + 12345;
    }

    /** A z of which the next two draws leave these by 10 and by 100; -1: any. */
    private static int zFor(int byTen, int byHundred) {
        for (int z = 0; z < 1000000; z++) {
            int first = drawn(z);
            int second = drawn(first);
            if ((byTen < 0 || (first >>> 16) % 10 == byTen) && (byHundred < 0 || (second >>> 16) % 100 == byHundred)) {
                return z;
            }
        }
        throw new IllegalStateException("no such z");
    }

    private static void good() {
        Edge.still("29: none", Edge.NEW, x -> x.good(), 0);
        Edge.asks("29: it changes nothing", Edge.SOME, x -> x.good());
        Edge.due("29: eight", x -> {
            for (int i = 0; i < 8; i++) {
                x.stocking(i % 6, 0, 0, 1);
            }
        }, x -> x.good(), 255);
        for (int i = 0; i < 8; i++) {
            int at = i;
            Edge.due("29: sets are told by bits, " + i, x -> {
                for (int j = 0; j < 8; j++) {
                    x.stocking(0, 0, 0, 1);
                    x.snag(j, j == at ? 0 : 30);
                }
            }, x -> x.good(), 1 << i);
        }
        // Two of one PAIR that last 1 and 2 WEARINGS, behind one DAY.
        Edge.Making worn = x -> {
            Check.told(x, one("plain", 0, 0, 1) + one("plain", 0, 0, 2));
            x.set(7, 0);
        };
        Edge.due("29: WORN 0 below LASTS 1", worn, x -> x.good(), 3);
        Edge.due("29: WORN 1 not below LASTS 1, below LASTS 2", worn, x -> 10 * x.day() + x.good(), 12);
    }

    private static void goodByRungs() {
        int[][] due = {{7, 7, 1}, {8, 8, 0}, {0, 7, 1}, {0, 8, 0}, {59, 59, 0}, {60, 60, 1}, {59, 60, 0}, {60, 99, 1},
            {0, 99, 0}, {30, 40, 0}, {0, 0, 1}, {99, 99, 1}};
        for (int[] d : due) {
            Edge.due("29: open RUNGS from SHOE on, below HEM: " + d[0] + " to " + d[1], x -> Check.told(x, open(d[0], d[1])),
                x -> x.good(), d[2]);
        }
        Edge.due("29: SHOE 0", x -> Check.told(x, open(0, 0)), x -> x.set(3, 0) * 0 + x.good(), 0);
        Edge.due("29: HEM 100", x -> Check.told(x, open(99, 99)), x -> x.set(4, 100) * 0 + x.good(), 0);
        Edge.due("29: HEM 99", x -> Check.told(x, open(99, 99)), x -> x.set(4, 99) * 0 + x.good(), 1);
        Edge.due("29: SHOE 30, HEM 31, below", x -> Check.told(x, open(0, 29)), x -> x.set(3, 30) * 0 + x.set(4, 31) * 0
            + x.good(), 1);
        Edge.due("29: SHOE 30, HEM 31, there", x -> Check.told(x, open(30, 30)), x -> x.set(3, 30) * 0 + x.set(4, 31) * 0
            + x.good(), 0);
        Edge.due("29: SHOE 30, HEM 31, above", x -> Check.told(x, open(31, 31)), x -> x.set(3, 30) * 0 + x.set(4, 31) * 0
            + x.good(), 1);
    }

    private static void pairs() {
        Edge.still("30: none", Edge.NEW, x -> x.pairs(), 0);
        Edge.asks("30: it changes nothing", Edge.FULL, x -> x.pairs());
        for (int n = 1; n <= 8; n++) {
            int many = n;
            Edge.due("30: of " + n + " alike", x -> {
                for (int i = 0; i < many; i++) {
                    x.stocking(3, i, 2, 1 + i);
                }
            }, x -> x.pairs(), n / 2);
        }
        Edge.due("30: three and three and two", x -> {
            for (int i = 0; i < 8; i++) {
                x.stocking(i % 3, 0, 0, 1);
            }
        }, x -> x.pairs(), 3);
        Edge.due("30: one KIND, each of another SHADE", x -> {
            for (int i = 0; i < 4; i++) {
                x.stocking(0, 0, i, 1);
            }
        }, x -> x.pairs(), 0);
        Edge.due("30: one SHADE, each of another KIND", x -> {
            for (int i = 0; i < 6; i++) {
                x.stocking(i, 0, 1, 1);
            }
        }, x -> x.pairs(), 0);
        Edge.due("30: KIND 0 of SHADE 3 and KIND 3 of SHADE 0", x -> {
            x.stocking(0, 0, 3, 1);
            x.stocking(3, 0, 0, 1);
        }, x -> x.pairs(), 0);
        Edge.due("30: GOOD ones alone", x -> {
            for (int i = 0; i < 4; i++) {
                x.stocking(0, 0, 0, 1);
            }
            x.snag(1, 8);
            x.snag(2, 7);
        }, x -> x.pairs(), 1);
    }

    private static void mate() {
        Edge.Making made = x -> {
            for (int i = 0; i < 8; i++) {
                x.stocking(i / 4, 0, i % 4 == 3 ? 1 : 0, 1);
            }
            x.snag(4, 20);
        };
        int[] due = {1, 0, 0, NONE, NONE, 6, 5, NONE};
        for (int i = 0; i < 8; i++) {
            int stocking = i;
            Edge.still("31: the least, not itself: of " + i, made, x -> x.mate(stocking), due[i]);
        }
        Edge.onlyWithin("31: the STOCKINGS that there are", made, (x, i) -> x.mate(i), 0, 7);
        Edge.onlyWithin("31: the STOCKINGS that there are", Edge.SOME, (x, i) -> x.mate(i), 0, 3);
        Edge.still("31: none", Edge.NEW, x -> x.mate(0), BAD);
        Edge.still("31: NONE, one alone", x -> x.stocking(0, 0, 0, 1), x -> x.mate(0), NONE);
        Edge.due("31: the mate isn't GOOD any more", made, x -> x.snag(1, 59) + x.mate(0), 3);
        Edge.due("31: the mate stays GOOD", made, x -> x.snag(1, 60) + x.mate(0), 2);
    }

    private static void costNumbers() {
        Edge.onlyWithin("32: the STOCKINGS that there are", Edge.SOME, (x, i) -> (int) x.costs(i, 0, 0), 0, 3);
        Edge.onlyWithin("32: mended 0 and 1", Edge.SOME, (x, mended) -> (int) x.costs(0, mended, 0), 0, 1);
        Edge.onlyWithin("32: parts 0 and 1", Edge.SOME, (x, part) -> (int) x.costs(0, 0, part), 0, 1);
        Edge.onlyWithin("32: parts 0 and 1, mended", Edge.SOME, (x, part) -> (int) x.costs(0, 1, part), 0, 1);
        Edge.still("32: none", Edge.NEW, x -> x.costs(0, 0, 0), BAD);
        Edge.onlyWithin("33: the STOCKINGS that there are", Edge.SOME, (x, i) -> x.worth(i), 0, 3);
        Edge.still("33: none", Edge.NEW, x -> x.worth(0), BAD);
        Edge.asks("32: it changes nothing", Edge.SOME, x -> x.costs(1, 1, 1));
        Edge.asks("33: it changes nothing", Edge.SOME, x -> x.worth(1));
        Edge.Making worn = x -> {
            Check.told(x, one("plain", 0, 0, 1) + one("plain", 0, 0, 2));
            x.set(7, 0);
            x.day();
        };
        for (int i = 0; i < 2; i++) {
            int part = i;
            Edge.still("32: NONE, mended, WORN is LASTS", worn, x -> x.costs(0, 1, part), NONE);
            Edge.due("32: new, WORN is LASTS", worn, x -> x.costs(0, 0, part), part == 0 ? 190 : 1);
            Edge.due("32: mended, WORN is below LASTS", worn, x -> x.costs(1, 1, part), part);
        }
        Edge.still("32: BAD ahead of NONE, part", worn, x -> x.costs(0, 1, 2), BAD);
        Edge.still("32: BAD ahead of NONE, part", worn, x -> x.costs(0, 1, -1), BAD);
        Edge.still("32: another mended is BAD, not NONE", worn, x -> x.costs(0, 2, 0), BAD);
        Edge.still("33: NONE, WORN is LASTS", worn, x -> x.worth(0), NONE);
        Edge.due("33: WORN is below LASTS", worn, x -> x.worth(1), 1);
        Edge.still("33: BAD, no such STOCKING", worn, x -> x.worth(2), BAD);
    }

    /** NEW by LASTS, and MEND for each open RUNG by LASTS, as parts. */
    private static void fraction(int pence, int lasts, long above, long below) {
        Edge.Making made = x -> {
            x.stocking(0, 0, 0, lasts);
            x.set(6, pence);
        };
        String sentence = "32: without a common divisor, " + pence + " by " + lasts;
        Edge.due(sentence, made, x -> x.costs(0, 0, 0), above);
        Edge.due(sentence, made, x -> x.costs(0, 0, 1), below);
    }

    private static void mended(int mend, int low, int high, int lasts, long above, long below) {
        Edge.Making made = x -> {
            Check.told(x, "plain 0 shade 0 lasts " + lasts + (low < 0 ? ";" : " ladder " + low + " to " + high + ";"));
            x.set(5, mend);
        };
        String sentence = "32: mended, " + mend + " for RUNGS " + low + " to " + high + ", by " + lasts;
        Edge.due(sentence, made, x -> x.costs(0, 1, 0), above);
        Edge.due(sentence, made, x -> x.costs(0, 1, 1), below);
    }

    private static void fractions() {
        fraction(1, 1, 1, 1);
        fraction(1, 30, 1, 30);
        fraction(999, 1, 999, 1);
        fraction(999, 30, 333, 10);
        fraction(30, 30, 1, 1);
        fraction(15, 30, 1, 2);
        fraction(60, 30, 2, 1);
        fraction(29, 30, 29, 30);
        fraction(7, 30, 7, 30);
        fraction(12, 18, 2, 3);
        mended(2, -1, -1, 30, 0, 1);
        mended(0, 0, 99, 30, 0, 1);
        mended(0, -1, -1, 1, 0, 1);
        mended(99, 0, 99, 1, 9900, 1);
        mended(99, 0, 99, 30, 330, 1);
        mended(99, 0, 98, 30, 3267, 10);
        mended(1, 5, 5, 30, 1, 30);
        mended(1, 5, 5, 1, 1, 1);
        mended(2, 5, 9, 30, 1, 3);
    }

    /** By LASTS less WORN: 30 less 0 to 29, for seven RUNGS at 6 pence; then no more. */
    private static void fractionsOfWornOnes() {
        for (int days = 0; days < 30; days++) {
            int worn = days;
            Edge.Making made = x -> {
                Check.told(x, "plain 0 shade 0 lasts 30 ladder 0 to 6;" + one("plain", 0, 0, 30));
                x.set(5, 6);
                x.set(7, 0);
                for (int i = 0; i < worn; i++) {
                    x.day();
                }
            };
            int divisor = 1;
            for (int d = 1; d <= 30; d++) {
                divisor = 42 % d == 0 && (30 - worn) % d == 0 ? d : divisor;
            }
            Edge.due("32: by LASTS less WORN " + worn, made, x -> x.costs(0, 1, 0), 42 / divisor);
            Edge.due("32: by LASTS less WORN " + worn, made, x -> x.costs(0, 1, 1), (30 - worn) / divisor);
            Edge.due("32: new, by LASTS", made, x -> 100 * x.costs(0, 0, 0) + x.costs(0, 0, 1), 1903);
            Edge.due("33: by LASTS less WORN " + worn, made, x -> x.worth(0), 42 * 30 < 190 * (30 - worn) ? 1 : 0);
        }
    }

    private static void worth() {
        int[][] due = {{190, 1}, {20, 1}, {11, 1}, {10, 0}, {9, 0}, {1, 0}};
        for (int[] d : due) {
            Edge.due("33: ten for five RUNGS against " + d[0], x -> {
                Check.told(x, open(0, 4));
                x.set(6, d[0]);
            }, x -> x.worth(0), d[1]);
        }
        Edge.due("33: 0 mended is less than 1 by 30", x -> {
            x.stocking(0, 0, 0, 30);
            x.set(6, 1);
        }, x -> x.worth(0), 1);
        // One DAY leaves 2 of 3 WEARINGS: 4 by 2 is as much as 6 by 3, and less than 7 by 3.
        Edge.Making worn = x -> {
            Check.told(x, one("plain", 0, 0, 3) + one("plain", 0, 0, 3));
            x.set(7, 0);
            x.day();
            x.snag(0, 98);
            x.set(5, 4);
        };
        Edge.due("33: just as much", worn, x -> x.set(6, 6) * 0 + x.worth(0), 0);
        Edge.due("33: less, by fractions", worn, x -> x.set(6, 7) * 0 + x.worth(0), 1);
        Edge.due("33: more, by fractions", worn, x -> x.set(6, 5) * 0 + x.worth(0), 0);
        Edge.due("33: the greatest of both", x -> {
            Check.told(x, "plain 0 shade 0 lasts 30 ladder 0 to 99;");
            x.set(5, 99);
            x.set(6, 999);
        }, x -> x.worth(0), 0);
    }

    private static void sinceNumbers() {
        Edge.onlyWithin("34: the STOCKINGS that there are", Edge.SOME, (x, i) -> x.since(i, 0, 30), 0, 3);
        Edge.onlyWithin("34: WAYS 0 and 1", Edge.SOME, (x, way) -> x.since(0, way, 30), 0, 1);
        Edge.range("34: RUNGS 0 to 99", Edge.SOME, (x, rung) -> x.since(0, 0, rung), 0, NONE, 99, NONE);
        Edge.still("34: none", Edge.NEW, x -> x.since(0, 0, 0), BAD);
        Edge.still("34: NONE, there is no LADDER", Edge.SOME, x -> x.since(2, 0, 50), NONE);
        Edge.still("34: NONE, no such LEG", Edge.SOME, x -> x.since(0, 0, 30), NONE);
        Edge.still("34: BAD ahead of NONE, RUNG", Edge.SOME, x -> x.since(2, 0, 100), BAD);
        Edge.still("34: BAD ahead of NONE, RUNG", Edge.SOME, x -> x.since(2, 0, -1), BAD);
        Edge.still("34: BAD ahead of NONE, WAY", Edge.SOME, x -> x.since(2, 2, 50), BAD);
        Edge.asks("2: BEGUN is tried alone", Edge.FULL, x -> x.since(7, 0, 99));
    }

    private static void since(String sentence, String text, int rung, int due) {
        Edge.due("34: " + sentence, x -> Check.told(x, text), x -> x.since(0, 0, rung), due);
    }

    private static void since() {
        since("behind all, no LEGS", open(50, 50), 50, 0);
        since("behind all, of another RUNG", open(50, 50), 49, NONE);
        since("behind all, of two RUNGS", open(50, 51), 51, NONE);
        since("behind all, RUNG 0", open(0, 0), 0, 0);
        since("behind all, RUNG 99", open(99, 99), 99, 0);
        since("the greatest: behind all of ten", open(99, 99) + "go stands 1,stands 2,stands 3,stands 4,stands 5,stands 6,"
            + "stands 7,stands 8,stands 9,stands 10;", 99, 10);
        since("ahead of the first of ten", open(20, 50) + "go steps 1,steps 1,steps 1,steps 1,steps 1,steps 1,steps 1,"
            + "steps 1,steps 1,steps 1;", 50, 0);
        since("ahead of the last of ten", open(47, 50) + "go steps 1,steps 1,steps 1,steps 1,steps 1,steps 1,steps 1,"
            + "steps 1,steps 1,steps 1;", 50, 9);
        since("more than by all ten", open(19, 50) + "go steps 1,steps 1,steps 1,steps 1,steps 1,steps 1,steps 1,"
            + "steps 1,steps 1,steps 1;", 50, NONE);
        since("the greatest of several", open(40, 60) + "go stands 1,sits 1,stands 1;", 50, 1);
        since("less by one", open(41, 60) + "go stands 1,sits 1,stands 1;", 50, NONE);
        since("to RUNG 0", open(0, 3) + "go steps 1,steps 1;", 3, 1);
        since("to RUNG 0 and beyond", open(0, 3) + "go steps 1,steps 9;", 3, 1);
        since("to RUNG 99", open(79, 99) + "go sits 1;", 89, 0);
        since("to RUNG 99 and beyond", open(80, 99) + "go sits 1;", 90, 0);
        since("a sheer one", "sheer 0 shade 0 lasts 9 ladder 44 to 50;go steps 1,steps 1;", 50, 1);
        since("a thick one", "thick 0 shade 0 lasts 9 ladder 44 to 44;go steps 1,sits 1;", 44, 2);
        since("a mesh one", "mesh 0 shade 0 lasts 9 ladder 50 to 55;go sits 1,steps 1;", 55, 1);
        since("a lined one", "lined 1 shade 0 lasts 9 ladder 48 to 51;go sits 1,steps 1;", 50, 0);
        since("an old one", "old 9 shade 0 lasts 9 ladder 38 to 50;go sits 1,steps 1;", 50, 1);
        Edge.due("34: without DABS", x -> {
            Check.told(x, open(47, 50) + "left 0;go steps 1;");
            x.dab(0, 46);
            x.dab(0, 51);
            x.move(3);
            x.move(3);
        }, x -> x.since(0, 0, 50), 0);
    }

    private static void fromNumbers() {
        Edge.onlyWithin("35: the STOCKINGS that there are", Edge.SOME, (x, i) -> x.from(i, 0, 3), 0, 3);
        Edge.onlyWithin("35: WAYS 0 and 1", Edge.SOME, (x, way) -> x.from(0, way, 3), 0, 1);
        Edge.onlyWithin("35: i 0 to how many LEGS there are", Edge.SOME, (x, i) -> x.from(0, 0, i), 0, 3);
        Edge.onlyWithin("35: i 0 to ten", Edge.FULL, (x, i) -> x.from(7, 1, i), 0, 10);
        Edge.onlyWithin("35: i 0 alone", x -> Check.told(x, open(5, 5)), (x, i) -> x.from(0, 1, i), 0, 0);
        Edge.still("35: none", Edge.NEW, x -> x.from(0, 0, 0), BAD);
        Edge.still("35: NONE, there is no LADDER", Edge.SOME, x -> x.from(2, 0, 3), NONE);
        Edge.still("35: NONE, no such RUNG", Edge.SOME, x -> x.from(0, 0, 3), NONE);
        Edge.still("35: BAD ahead of NONE, i", Edge.SOME, x -> x.from(2, 0, 4), BAD);
        Edge.still("35: BAD ahead of NONE, i", Edge.SOME, x -> x.from(2, 0, -1), BAD);
        Edge.still("35: BAD ahead of NONE, WAY", Edge.SOME, x -> x.from(2, -1, 0), BAD);
        Edge.asks("2: BEGUN is tried alone", Edge.FULL, x -> x.from(7, 0, 0));
    }

    private static void from(String sentence, String text, int i, int due) {
        Edge.due("35: " + sentence, x -> Check.told(x, text), x -> x.from(0, 0, i), due);
    }

    private static void from() {
        from("no LEGS, RUNG 0", open(0, 0), 0, 0);
        from("no LEGS, RUNG 99", open(99, 99), 0, 99);
        from("no LEGS, two RUNGS", open(98, 99), 0, NONE);
        from("behind all", open(7, 7) + "go steps 1;", 1, 7);
        from("ahead of all, of one RUNG", open(7, 7) + "go steps 1;", 0, NONE);
        from("RUNG 0", open(0, 0) + "go steps 1;", 0, 0);
        from("the least of several", open(0, 99) + "go sits 1,sits 1,sits 1,sits 1,sits 1,sits 1;", 0, 39);
        from("the least, by one LEG less", open(0, 99) + "go sits 1,sits 1,sits 1,sits 1,sits 1,sits 1;", 1, 49);
        from("too few LEGS for all", open(0, 99) + "go sits 1,sits 1,sits 1,sits 1,sits 1,sits 1;", 2, NONE);
        from("RUNG 99", open(89, 99) + "go sits 1,stairs 1;", 1, 99);
        from("RUNG 99, UP no further", open(89, 99) + "go sits 1;", 0, 99);
        from("a mesh one, the least of ten", "mesh 0 shade 0 lasts 9 ladder 40 to 60;go sits 1;", 0, 50);
        from("a mesh one, from below its ten", "mesh 0 shade 0 lasts 9 ladder 40 to 50;go sits 1;", 0, 41);
        Edge.due("35: without DABS", x -> {
            Check.told(x, open(40, 60) + "left 0;go sits 1;");
            x.dab(0, 39);
            x.dab(0, 61);
            x.move(3);
            x.move(3);
        }, x -> x.from(0, 0, 0), 50);
    }

    private static void seed() {
        for (int v : new int[] {LEAST, LEAST + 1, -1, 0, 1, 2, GREATEST - 1, GREATEST}) {
            Edge.changes("36: z becomes " + v + " alone", Edge.SOME, x -> x.seed(v), GREATEST, "z",
                "told: z");
            Edge.due("36: what it was, " + v, x -> x.seed(v), x -> x.seed(5), v);
        }
        Edge.due("36: 1 at first", Edge.NEW, x -> x.seed(LEAST), 1);
    }

    private static Edge.Making pair(int snag, int z) {
        return x -> {
            Check.told(x, one("plain", 0, 0, 30) + one("plain", 0, 0, 30));
            x.set(7, snag);
            x.seed(z);
        };
    }

    private static void drawsThatWrap() {
        for (int z : new int[] {LEAST, -1, 0, 1, 65535, 65536, GREATEST, -1103515245}) {
            Edge.due("z wraps, one draw of " + z, pair(0, z), x -> x.day() * 0 + x.seed(0), drawn(z));
            Edge.due("z wraps, two draws of " + z, pair(10, z), x -> x.day() * 0 + x.seed(0), drawn(drawn(z)));
            Edge.due("z >>> 16 is never below 0, of " + z, pair(10, z), x -> x.day() * 0 + x.of(0, 6),
                (drawn(drawn(z)) >>> 16) % 100);
        }
        int below = 0;
        while (drawn(below) >= 0 || drawn(drawn(below)) >= 0) {
            below++;
        }
        int z = below;
        Edge.due("z >>> 16 of two that are below 0", pair(10, z), x -> x.day() * 0 + x.of(0, 6),
            (drawn(drawn(z)) >>> 16) % 100);
    }

    private static void snagByDraws() {
        for (int left = 0; left < 10; left++) {
            int z = zFor(left, -1);
            for (int snag = 0; snag <= 10; snag++) {
                int due = left < snag ? drawn(drawn(z)) : drawn(z);
                Edge.due("less than SNAG by 10: " + left + " and SNAG " + snag, pair(snag, z), x -> x.day() * 0 + x.seed(0),
                    due);
                Edge.due("a LADDER then: " + left + " and SNAG " + snag, pair(snag, z), x -> x.day() * 0 + x.many(2),
                    left < snag ? 1 : 0);
            }
        }
    }

    private static void rungByDraws() {
        for (int rung : new int[] {0, 1, 50, 98, 99}) {
            int z = zFor(0, rung);
            Edge.due("the RUNG that is left by 100, " + rung, pair(1, z), x -> x.day() * 0 + x.of(0, 6), rung);
            Edge.due("a LADDER of one RUNG, " + rung, pair(1, z), x -> x.day() * 0 + x.of(0, 9), 1);
            Edge.due("the right one gets none", pair(1, z), x -> x.day() * 0 + x.of(1, 6), -9);
            Edge.due("no DAB there, " + rung, x -> {
                pair(1, z).make(x);
                x.dab(0, rung);
            }, x -> x.day() * 0 + x.many(2), 0);
            Edge.due("the DAB stays, with no MOVE on WAY 0", x -> {
                pair(1, z).make(x);
                x.dab(0, rung);
            }, x -> x.day() * 0 + x.dabOf(0, rung), 2);
            Edge.due("a DAB beside it keeps none away", x -> {
                pair(1, z).make(x);
                x.dab(0, rung == 0 ? 1 : rung - 1);
            }, x -> x.day() * 0 + x.of(0, 6), rung);
            Edge.due("a DAB on the right one keeps none away", x -> {
                pair(1, z).make(x);
                x.dab(1, rung);
            }, x -> x.day() * 0 + x.of(0, 6), rung);
        }
    }

    private static void laddersByDraws() {
        int z = zFor(0, 40);
        Edge.Making has = x -> {
            Check.told(x, open(60, 61) + open(0, 0));
            x.set(7, 10);
            x.seed(z);
        };
        Edge.due("if it has none: LOW stays", has, x -> x.day() * 0 + x.of(0, 6), 60);
        Edge.due("if it has none: HIGH stays", has, x -> x.day() * 0 + x.of(0, 7), 61);
        Edge.due("drawn twice all the same", has, x -> x.day() * 0 + x.seed(0), drawn(drawn(z)));
        Edge.due("it runs on WAY 0, with the LADDER that it gets", x -> {
            pair(1, z).make(x);
            x.leg(0, 0, 2);
        }, x -> x.day() * 0 + x.of(0, 6), 34);
        Edge.due("not on WAY 1", x -> {
            pair(1, z).make(x);
            x.leg(1, 0, 2);
        }, x -> x.day() * 0 + x.of(0, 6), 40);
    }

    private static void days() {
        Edge.Making many = x -> {
            Check.told(x, one("old", 0, 0, 2) + one("sheer", 0, 1, 2) + one("sheer", 0, 0, 2) + one("sheer", 0, 1, 1)
                + one("old", 0, 1, 2) + one("sheer", 0, 1, 30) + one("old", 0, 0, 1) + "left 2;right 6;");
            x.set(7, 0);
        };
        Edge.changes("37: the PAIR with the least number, and of these the least other one", many, x -> x.day(), 1,
            "of(0, 4)", "of(6, 4)", "of(2, 8)", "of(6, 8)", "z", "told: z");
        Edge.due("37: WORN of both is 1 more", many, x -> x.day() * 0 + 10 * x.of(0, 4) + x.of(6, 4), 11);
        Edge.due("37: what was on FEET comes off, both come off", many, x -> x.day() * 0 + x.of(0, 8) + x.of(2, 8)
            + x.of(6, 8), -27);
        Edge.due("37: then the next PAIR", many, x -> x.day() * 0 + x.day() * 0 + 10 * x.of(1, 4) + x.of(3, 4), 11);
        Edge.due("37: then the next mate", many, x -> x.day() * 0 + x.day() * 0 + x.day() * 0 + 10 * x.of(1, 4) + x.of(5, 4),
            21);
        Edge.due("37: then there is none", many, x -> 100 * x.day() * x.day() * x.day() + x.day(), 100);
        Edge.due("37: WORN up to LASTS 30", x -> {
            Check.told(x, one("plain", 0, 0, 30) + one("plain", 0, 0, 30));
            x.set(7, 0);
            for (int i = 0; i < 29; i++) {
                x.day();
            }
        }, x -> 1000 * x.day() + 100 * x.day() + x.of(1, 4), 1030);
        Edge.due("37: one stands on WAY 0, DABS dry", x -> {
            pair(0, 1).make(x);
            x.dab(1, 5);
            x.leg(0, 3, 1);
        }, x -> x.day() * 0 + x.dabOf(1, 5), 1);
        Edge.due("37: the first MOVE of WAY 0 takes what is WET", x -> {
            pair(0, 1).make(x);
            x.dab(1, 5);
            x.leg(0, 3, 1);
            x.leg(0, 0, 1);
        }, x -> x.day() * 0 + x.many(3), 0);
    }

    private static void noPair() {
        Edge.still("37: nothing happens, nothing is there", Edge.NEW, x -> x.day(), 0);
        Edge.still("37: nothing happens without a PAIR", Edge.SOME, x -> x.day(), 0);
        Edge.still("37: nothing happens without a PAIR", Edge.FULL, x -> x.day(), 0);
        Edge.still("37: one alone is none", x -> {
            x.stocking(0, 0, 0, 1);
            x.wear(0, 0);
            x.leg(0, 0, 1);
        }, x -> x.day(), 0);
        Edge.still("37: one of two isn't GOOD", x -> {
            Check.told(x, open(8, 8) + open(7, 7) + "left 0;right 1;go sits 1;");
        }, x -> x.day(), 0);
        Edge.due("37: both are GOOD, with LADDERS", x -> {
            Check.told(x, open(60, 60) + open(7, 7) + "left 0;right 1;go sits 1;");
        }, x -> x.day(), 1);
    }

    private static void month() {
        Edge.range("38: n 1 to 30", Edge.NEW, (x, n) -> x.month(n), 1, 0, 30, 0);
        Edge.range("38: n 1 to 30", pair(0, 1), (x, n) -> x.month(n), 1, 1, 30, 30);
        Edge.asks("38: nothing changes, z neither", pair(10, 77), x -> x.month(30));
        Edge.asks("38: nothing changes", Edge.SOME, x -> x.month(30));
        Edge.Making lasts = x -> {
            Check.told(x, one("plain", 0, 0, 29) + one("plain", 0, 0, 30) + one("plain", 0, 0, 1) + "left 1;right 2;");
            x.set(7, 0);
        };
        int[][] due = {{1, 1}, {28, 28}, {29, 29}, {30, 30}};
        for (int[] d : due) {
            Edge.still("38: on how many there is a PAIR, of " + d[0], lasts, x -> x.month(d[0]), d[1]);
        }
        Edge.Making few = x -> {
            Check.told(x, one("plain", 0, 0, 2) + one("plain", 0, 0, 3) + one("mesh", 0, 0, 1) + one("mesh", 0, 0, 1));
            x.set(7, 0);
        };
        int[][] fewDue = {{1, 1}, {2, 2}, {3, 3}, {4, 3}, {30, 3}};
        for (int[] d : fewDue) {
            Edge.still("38: on how many there is a PAIR, of " + d[0], few, x -> x.month(d[0]), d[1]);
        }
        // A LADDER from SHOE on, below HEM, ends the PAIR; DRAWS go on from z as they would day by day.
        for (int z = -3; z < 4; z++) {
            int told = z;
            int days = 0;
            NylonLadder x = new NylonLadder();
            pair(3, z).make(x);
            for (int i = 0; i < 30; i++) {
                days += x.day();
            }
            Edge.still("38: as so many DAYS would be", pair(3, told), y -> y.month(30), days);
        }
    }
}
