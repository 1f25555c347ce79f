import java.util.ArrayList;
import java.util.List;

/**
 * The edges that the document names for promises 2 and 3, THE TAPE and the TEXT: how much it
 * takes, each number's least and greatest, the place of each FAULT, what it leaves as it is.
 */
public final class TextEdgesTest {
    private static final int BAD = -1, FULL = -2;
    private static final String STOCKING = "plain 1 shade 2 lasts 3;";

    public static void main(String[] args) {
        feedNumbers();
        twoHundredBytes();
        bytesOfEight();
        leastAndGreatestFaults();
        isUsedUp();
        isAllByItself();
        isAllByTheNextOneAlone();
        changesNothingByAFault();
        numbersOfStockings();
        numbersOfLawsAndLegs();
        digits();
        feet();
        limits();
        namesAndBlanks();
        everyPlace();
        Check.end("TextEdgesTest");
    }

    private static String filled(String text, int length) {
        StringBuilder filled = new StringBuilder(text);
        while (filled.length() < length) {
            filled.append(' ');
        }
        return filled.toString();
    }

    private static void fault(String sentence, String text, int place) {
        NylonLadder x = new NylonLadder();
        Check.due(sentence + ": '" + text + "'", Check.told(x, text), -100 - place);
    }

    private static void right(String sentence, String text, int stockings) {
        NylonLadder x = new NylonLadder();
        Check.due(sentence + ": '" + text + "'", Check.told(x, text), stockings);
    }

    private static void feedNumbers() {
        long blanks = 0x2020202020202020L;
        Edge.range("2: n 1 to 8", Edge.NEW, (x, n) -> x.feed(blanks, n), 1, 1, 8, 8);
        Edge.range("2: n 1 to 8, how many it has", Edge.SOME, (x, n) -> x.feed(blanks, n), 1, 25, 8, 32);
        Edge.changes("2: THE TAPE alone becomes more", Edge.SOME, x -> x.feed(blanks, 8), 32, "many(5)");
        Edge.still("2: FULL, none at all", Edge.FULL, x -> x.feed(blanks, 1), FULL);
        Edge.still("2: FULL, eight", Edge.FULL, x -> x.feed(blanks, 8), FULL);
        Edge.still("2: BAD ahead of FULL", Edge.FULL, x -> x.feed(blanks, 0), BAD);
        Edge.still("2: BAD ahead of FULL", Edge.FULL, x -> x.feed(blanks, 9), BAD);
        Edge.still("2: BAD ahead of FULL", Edge.FULL, x -> x.feed(blanks, -1), BAD);
    }

    private static void twoHundredBytes() {
        for (int n = 1; n <= 8; n++) {
            int more = n;
            Edge.Making one = x -> Check.feed(x, filled("step 7;", 200 - more));
            Edge.Making two = x -> Check.feed(x, filled("step 7;", 201 - more));
            Edge.due("2: 200 at most, the last " + n, one, x -> x.feed(0x2020202020202020L, more), 200);
            Edge.still("2: more than 200, none of the " + n + " comes", two, x -> x.feed(0x2121212121212121L, more), FULL);
        }
        Edge.due("2: then there is place again", x -> {
            Edge.FULL.make(x);
            x.drawer();
        }, x -> x.feed(0, 8), 8);
    }

    private static void bytesOfEight() {
        // "step 9;;": the lowest byte first; what stands above n bytes doesn't come.
        long eight = 0x3b3b392070657473L;
        for (int n = 1; n <= 8; n++) {
            int told = n;
            int[] due = {0, -100, -100, -100, -104, -105, -106, 0, -107};
            Edge.due("2: the lowest first, " + n, x -> x.feed(eight, told), x -> x.drawer(), due[n]);
        }
        Edge.due("2: all eight bytes are different ones", x -> {
            x.feed(0x2020202020202020L, 8);
            x.feed(0x3b372070657473L, 7);
            x.drawer();
        }, x -> x.lawOf(0), 7);
        Edge.due("2: the highest one below 0 as a long", x -> x.feed(0xff20202020202020L, 8), x -> x.drawer(), -107);
        Edge.due("2: all bits", x -> x.feed(-1, 8), x -> x.drawer(), -100);
    }

    private static void leastAndGreatestFaults() {
        right("3: an empty TAPE", "", 0);
        right("3: blanks alone", filled("", 200), 0);
        fault("3: the place is from 0", "!", 0);
        fault("3: the last of 200 bytes", filled("", 199) + "!", 199);
        fault("3: the end, how many bytes there are", filled("step 4", 200), 200);
        fault("3: the end, with a name alone", filled("", 198) + "go", 200);
        fault("3: the end, of one blank more", "step 4 ", 7);
        fault("3: the first of several", "step 10; bend 99; !", 5);
    }

    private static void isUsedUp() {
        Edge.changes("3: THE TAPE is used up by a FAULT", x -> {
            Edge.SOME.make(x);
            x.feed(33, 1);
        }, x -> x.drawer(), -124, "many(5)", "drawer()", "told: ");
        Edge.due("3: used up by a FAULT", x -> {
            x.feed(33, 1);
            x.drawer();
        }, x -> x.many(5), 0);
        Edge.due("3: used up without one", x -> {
            Edge.FULL.make(x);
            x.drawer();
        }, x -> x.many(5), 0);
        Edge.due("3: then an empty one tells nothing", x -> {
            Edge.SOME.make(x);
            x.drawer();
        }, x -> x.drawer(), 0);
        Edge.due("3: then its bytes count from 0", x -> {
            Edge.FULL.make(x);
            x.drawer();
            x.feed(0x2120, 2);
        }, x -> x.drawer(), -101);
    }

    private static void isAllByItself() {
        // Behind an empty TAPE all is as at first but z, what is kept, the host's things and THE TRACE.
        Edge.Making emptied = x -> {
            Edge.FULL.make(x);
            x.set(0, 9);
            x.set(5, 99);
            x.seed(-8);
            x.drawer();
            x.drawer();
        };
        int[] laws = {3, 10, 2, 8, 60, 2, 190, 2};
        for (int i = 0; i < 8; i++) {
            int law = i;
            Edge.due("3: LAWS that it doesn't tell are as at first", emptied, x -> x.lawOf(law), laws[law]);
        }
        for (int i = 0; i < 6; i++) {
            int what = i;
            Edge.due("3: it is all by it alone, many(" + what + ")", emptied, x -> x.many(what), 0);
        }
        Edge.due("3: z stays", emptied, x -> x.seed(0), -8);
        Edge.due("3: nothing is on the left FOOT", emptied, x -> x.wear(0, -1), -9);
        Edge.due("3: nothing is on the right FOOT", emptied, x -> x.wear(1, -1), -9);
        Edge.due("3: what is kept stays", emptied, x -> x.again(), 8);
        Edge.due("3: THE TRACE stays", emptied, x -> x.many(6), 11);
        Edge.due("3: SHEETS stay", emptied, x -> x.item(2, 2, 2), -12);
        Edge.due("3: SHELVES hold their rows", emptied, x -> x.taken(1, 11), 40);
        Edge.due("3: and STOCKINGS by number", emptied, x -> x.taken(3, 0), -11);
        Edge.changes("3: a TEXT touches nothing but the drawer, ROWS and THE TAPE", Edge.SOME, x -> x.drawer(), 1,
            "of(", "lawOf(", "legOf(", "dabOf(", "row(", "many(0", "many(1", "many(2", "many(3", "many(4", "many(5",
            "SHELF", "drawer()", "told: ");
        Edge.due("3: there are no ROWS then", x -> {
            Edge.SOME.make(x);
            x.drawer();
        }, x -> x.row(0, 0), -9);
    }

    /** Nothing of a TEXT stays for the next one, be the first right or not. */
    private static void isAllByTheNextOneAlone() {
        String first = "old 9 shade 3 lasts 30 ladder 5 to 9;" + STOCKING + "left 1;right 0;step 9;bend 20;"
            + "go sits 1,sits 2;cab stands 9;";
        for (String behind : new String[] {"", "!"}) {
            Edge.Making made = x -> {
                Check.told(x, first + behind);
                Check.told(x, STOCKING);
            };
            Edge.due("3: by it alone: STOCKINGS", made, x -> x.many(0), 1);
            Edge.due("3: by it alone: LEGS", made, x -> x.many(1), 0);
            Edge.due("3: by it alone: LADDERS", made, x -> x.many(2), 0);
            Edge.due("3: by it alone: nothing on the left FOOT", made, x -> x.wear(0, -1), -9);
            Edge.due("3: by it alone: nothing on the right FOOT", made, x -> x.wear(1, -1), -9);
            Edge.due("3: by it alone: STEP", made, x -> x.lawOf(0), 3);
            Edge.due("3: by it alone: BEND", made, x -> x.lawOf(1), 10);
            Edge.due("3: by it alone: no STOCKING is told ahead", x -> {
                Check.told(x, first + behind);
                Check.feed(x, "left 0;");
            }, x -> x.drawer(), -105);
        }
        int[] due = {0, 1, 2, 3, 0, 0, -9, -9, -9, 0};
        for (int what = 0; what < 10; what++) {
            int asked = what;
            Edge.due("3: a STOCKING in place of a WORN and turned one, what " + what, x -> {
                Check.told(x, "plain 9 shade 3 lasts 30 ladder 0 to 7;plain 9 shade 3 lasts 30;");
                x.day();
                x.turn(0, 3);
                x.dab(0, 50);
                x.wear(0, 0);
                Check.told(x, STOCKING);
            }, x -> x.of(0, asked), due[what]);
        }
    }

    private static void changesNothingByAFault() {
        // Each tells something ahead of its FAULT, in a drawer that has as much of it as may be.
        String[] texts = {STOCKING + "!", "left 0;", STOCKING + "left 0; right 0;", "step 1; bend 1; step",
            "go sits 1, sits 2, sits 0;", "cab steps 9", "go steps 1; cab steps 2; x",
            "old 9 shade 3 lasts 30 ladder 0 to 99; left 0; step 0; bend 0; go sits 60; cab stairs 60; ;"};
        for (String text : texts) {
            Edge.Making fed = x -> {
                Edge.FULL.make(x);
                x.drawer();
                x.again();
                x.prove(0, 0);
                Check.feed(x, text);
            };
            long due = Check.told(new NylonLadder(), text);
            Check.holds("a FAULT: " + text, due <= -100);
            Edge.changes("3: a FAULT changes nothing else: " + text, fed, x -> x.drawer(), due, "many(5)", "drawer()",
                "told: ");
        }
    }

    private static void numbersOfStockings() {
        right("A 0", "plain 0 shade 2 lasts 3;", 1);
        right("A 9", "plain 9 shade 2 lasts 3;", 1);
        fault("A 10", "plain 10 shade 2 lasts 3;", 6);
        fault("A 99", "plain 99 shade 2 lasts 3;", 6);
        right("SHADE 0", "plain 1 shade 0 lasts 3;", 1);
        right("SHADE 3", "plain 1 shade 3 lasts 3;", 1);
        fault("SHADE 4", "plain 1 shade 4 lasts 3;", 14);
        fault("LASTS 0", "plain 1 shade 2 lasts 0;", 22);
        fault("LASTS 00", "plain 1 shade 2 lasts 00;", 22);
        right("LASTS 1", "plain 1 shade 2 lasts 1;", 1);
        right("LASTS 30", "plain 1 shade 2 lasts 30;", 1);
        fault("LASTS 31", "plain 1 shade 2 lasts 31;", 22);
        right("LOW 0, HIGH 0", "plain 1 shade 2 lasts 3 ladder 0 to 0;", 1);
        right("LOW 99, HIGH 99", "plain 1 shade 2 lasts 3 ladder 99 to 99;", 1);
        right("LOW 0, HIGH 99", "plain 1 shade 2 lasts 3 ladder 0 to 99;", 1);
        fault("LOW 100", "plain 1 shade 2 lasts 3 ladder 100 to 99;", 31);
        fault("HIGH 100", "plain 1 shade 2 lasts 3 ladder 99 to 100;", 37);
        right("HIGH is LOW", "plain 1 shade 2 lasts 3 ladder 50 to 50;", 1);
        right("HIGH is LOW and 1", "plain 1 shade 2 lasts 3 ladder 50 to 51;", 1);
        fault("HIGH is LOW less 1", "plain 1 shade 2 lasts 3 ladder 50 to 49;", 37);
        fault("HIGH 0, LOW 1", "plain 1 shade 2 lasts 3 ladder 1 to 0;", 36);
        Edge.Making told = x -> Check.told(x, "old 9 shade 3 lasts 30 ladder 0 to 99;lined 0 shade 0 lasts 1;");
        int[][] due = {{5, 9, 3, 30, 0, 0, 0, 99, -9, 100}, {4, 0, 0, 1, 0, 0, -9, -9, -9, 0}};
        for (int i = 0; i < 2; i++) {
            for (int what = 0; what < 10; what++) {
                int stocking = i;
                int asked = what;
                Edge.due("what comes by a TEXT, what " + what, told, x -> x.of(stocking, asked), due[i][what]);
            }
        }
    }

    private static void numbersOfLawsAndLegs() {
        right("STEP 0", "step 0;", 0);
        right("STEP 9", "step 9;", 0);
        fault("STEP 10", "step 10;", 5);
        right("BEND 0", "bend 0;", 0);
        right("BEND 20", "bend 20;", 0);
        fault("BEND 21", "bend 21;", 5);
        for (String move : new String[] {"steps", "stairs", "sits", "stands"}) {
            int place = 4 + move.length();
            fault("N 0", "go " + move + " 0;", place);
            right("N 1", "go " + move + " 1;", 0);
            right("N 60", "go " + move + " 60;", 0);
            fault("N 61", "go " + move + " 61;", place);
            fault("N 100", "go " + move + " 100;", place);
            fault("N 0 of a later one", "cab sits 1, " + move + " 0;", place + 9);
            fault("N 61 of a later one", "cab sits 1, " + move + " 61;", place + 9);
        }
        Edge.due("the least LAW is taken", x -> Check.told(x, "step 0; bend 0;"), x -> 100 * x.lawOf(0) + x.lawOf(1), 0);
        Edge.due("the greatest LAW is taken", x -> Check.told(x, "step 9; bend 20;"), x -> 100 * x.lawOf(0) + x.lawOf(1),
            920);
        Edge.due("LAWS in place of those that were set", x -> {
            x.set(0, 5);
            Check.told(x, "bend 4;");
        }, x -> 100 * x.lawOf(0) + x.lawOf(1), 304);
    }

    private static void digits() {
        right("NUMBERS of 1 or 2 digits", "plain 01 shade 02 lasts 03 ladder 04 to 05;", 1);
        fault("of three digits", "plain 001 shade 2 lasts 3;", 6);
        fault("of three digits", "plain 1 shade 002 lasts 3;", 14);
        fault("of three digits", "plain 1 shade 2 lasts 003;", 22);
        fault("of three digits", "plain 1 shade 2 lasts 3 ladder 004 to 5;", 31);
        fault("of three digits", "plain 1 shade 2 lasts 3 ladder 4 to 005;", 36);
        fault("of three digits", "step 003;", 5);
        fault("of three digits", "go steps 001;", 9);
        fault("of three digits", STOCKING + "left 000;", 29);
        fault("as many as wrap an int to 1", "step 4294967297;", 5);
        fault("as many as wrap a long to 1", "step 18446744073709551617;", 5);
        fault("as long as they go", "step 1 2;", 7);
        fault("no sign ahead", "step -1;", 5);
        fault("no sign ahead", "step +1;", 5);
        fault("the byte below 0", "step /;", 5);
        fault("the byte above 9", "step :;", 5);
    }

    private static void feet() {
        String two = "old 1 shade 2 lasts 3;old 1 shade 2 lasts 3;";
        right("the least STOCKING told ahead", two + "left 0;", 2);
        right("the greatest STOCKING told ahead", two + "left 1;", 2);
        fault("one that isn't told", two + "left 2;", 49);
        fault("one that is told behind", "left 0;" + two, 5);
        fault("one that is told behind", "old 1 shade 2 lasts 3;right 1;old 1 shade 2 lasts 3;", 28);
        fault("STOCKINGS that were there are none told ahead", "right 0;", 6);
        fault("on the other FOOT", two + "left 0; right 0;", 58);
        fault("on this FOOT", two + "left 0; left 0;", 57);
        right("on another FOOT each", two + "right 0; left 1;", 2);
        right("it came off", two + "left 0; left 1; right 0;", 2);
        right("it came off and comes again", two + "left 0; left 1; left 0;", 2);
        fault("what came on instead is on", two + "left 0; left 1; right 1;", 66);
        Edge.Making turns = x -> Check.told(x, two + "left 0; left 1; right 0;");
        Edge.due("on the right", turns, x -> x.of(0, 8), 1);
        Edge.due("on the left", turns, x -> x.of(1, 8), 0);
        Edge.due("what was on it comes off", x -> Check.told(x, two + "right 0; right 1;"), x -> x.of(0, 8), -9);
        Edge.due("the eighth", x -> {
            Check.told(x, filled("", 8));
            Check.told(x, repeated("old 1 shade 2 lasts 3;", 8) + "left 7;right 0;");
        }, x -> 10 * x.of(7, 8) + x.of(0, 8), 1);
    }

    private static String repeated(String text, int times) {
        return text.repeat(times);
    }

    private static void limits() {
        String eight = repeated("old 1 shade 2 lasts 3;", 8);
        right("eight STOCKINGS", eight, 8);
        fault("the first NAME of a ninth", eight + "old 1 shade 2 lasts 3;", 176);
        fault("of a ninth, whatever follows", eight + "  old;", 178);
        right("eight STOCKINGS and a LAW", eight + "step 1;", 8);
        String[] ways = {"go ", "cab "};
        for (String way : ways) {
            String ten = way + "sits 1" + repeated(",sits 2", 9);
            right("ten LEGS", ten + ";", 0);
            fault("the first NAME of an eleventh", ten + ", sits 3;", ten.length() + 2);
            fault("of an eleventh, whatever follows", ten + ",steps", ten.length() + 1);
            fault("more must come behind ten", ten, ten.length());
            right("ten more in place of those", ten + ";" + ten + ";", 0);
            Edge.due("in place of those told ahead", x -> Check.told(x, ten + ";" + way + "stands 9;"), x -> x.many(1), 1);
        }
        Edge.due("ten LEGS of each", x -> Check.told(x, "go sits 1" + repeated(",sits 2", 9) + ";cab sits 1"
                + repeated(",sits 2", 9) + ";"), x -> x.many(1), 20);
    }

    private static void namesAndBlanks() {
        String[] kinds = {"plain", "sheer", "thick", "mesh", "lined", "old"};
        int[] numbers = {0, 1, 2, 3, 4, 5};
        for (int i = 0; i < kinds.length; i++) {
            String kind = kinds[i];
            Edge.due("KIND " + kind, x -> Check.told(x, kind + " 1 shade 2 lasts 3;"), x -> x.of(0, 0), numbers[i]);
            fault("less than " + kind, kind.substring(1) + " 1 shade 2 lasts 3;", 0);
            fault("less than " + kind, kind.substring(0, kind.length() - 1) + " 1 shade 2 lasts 3;", 0);
            fault("more than " + kind, kind + "s 1 shade 2 lasts 3;", 0);
            fault("not as long as it goes", kind + "shade 1;", 0);
            fault("no letters a to z", kind.toUpperCase() + " 1 shade 2 lasts 3;", 0);
        }
        String[] moves = {"steps", "stairs", "sits", "stands"};
        for (int i = 0; i < moves.length; i++) {
            String move = moves[i];
            Edge.due("MOVE " + move, x -> Check.told(x, "cab " + move + " 3;"), x -> x.legOf(1, 0, 0), i);
            fault("less than " + move, "cab " + move.substring(0, move.length() - 1) + " 3;", 4);
            fault("more than " + move, "cab " + move + "s 3;", 4);
        }
        for (String name : new String[] {"left", "right", "step", "bend", "go", "cab", "shade", "lasts", "ladder", "to",
            "steps", "hem", "a", "z"}) {
            fault("a NAME alone that can't stand there, or more must come", name + "x", 0);
        }
        for (String text : new String[] {"shade 1 lasts 2;", "lasts 2;", "ladder 1 to 2;", "to 2;", "steps 3;", "stands 1;",
            "shade 9;", "shade 1 lasts 99;", "shade", "lasts 99;"}) {
            fault("a NAME that can't stand first, whatever follows", text, 0);
            fault("a NAME that can't stand first, whatever follows", "step 4;" + text, 7);
        }
        right("rows of letters and rows of digits, as long as they go", "step4;plain1shade2lasts3ladder4to5;", 1);
        fault("a row of digits ends where a letter is", "step 4a;", 6);
        fault("a row of letters ends where a digit is", "st3ep 4;", 0);
        fault("the byte below a", "`", 0);
        fault("the byte above z", "{", 0);
        fault("brackets are none of the TEXT's", "{ step 1; }", 0);
        for (int other = 0; other < 256; other++) {
            boolean stands = other == ' ' || other >= '0' && other <= '9';
            if (!stands) {
                fault("blanks (32) alone, byte " + other, "step" + (char) other + "4;", other >= 'a' && other <= 'z' ? 0 : 4);
            }
        }
        right("as many blanks as one likes", "   step    4    ;    ", 0);
        right("none where a byte parts them", "step 4;bend 5;go sits 1,sits 2;", 0);
    }

    /** A text of every clause: each prefix of it, and each token of it in another's place. */
    private static void everyPlace() {
        String[] tokens = ("old 1 shade 2 lasts 3 ; mesh 9 shade 3 lasts 30 ladder 4 to 60 ; left 1 ; right 0 ; step 7 ; bend 12 ; "
                + "go steps 30 , sits 4 ; cab stairs 5 , stands 6 , steps 7 ;").split(" ");
        List<Integer> starts = new ArrayList<>();
        StringBuilder text = new StringBuilder();
        for (String token : tokens) {
            starts.add(text.length());
            text.append(token).append(' ');
        }
        right("every clause", text.toString(), 2);
        for (int t = 0; t < tokens.length; t++) {
            int start = starts.get(t);
            String ahead = text.substring(0, start);
            String behind = text.substring(start + tokens[t].length());
            for (String wrong : new String[] {"zz", "777", "!", String.valueOf((char) 200), "" + (char) 0}) {
                fault("in place of " + tokens[t], ahead + wrong + behind, start);
                fault("ahead of " + tokens[t], (ahead + wrong + " " + text.substring(start)), start);
            }
            for (int at = 0; at < tokens[t].length(); at++) {
                String wrong = tokens[t].substring(0, at) + 'x' + tokens[t].substring(at + 1);
                boolean isDigitAhead = at > 0 && Character.isDigit(tokens[t].charAt(0));
                fault("a letter else", ahead + wrong + behind, isDigitAhead ? start + at : start);
            }
            boolean isOver = t == 0 || tokens[t - 1].equals(";");
            if (!isOver) {
                fault("more must come", ahead, start);
            }
            for (int cut = 1; cut < tokens[t].length(); cut++) {
                boolean isNumber = Character.isDigit(tokens[t].charAt(0));
                fault("a part of " + tokens[t], ahead + tokens[t].substring(0, cut), isNumber ? start + cut : start);
            }
        }
    }
}
