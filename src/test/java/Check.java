/** What the tests share: calls are told with their answer and the one that is due. */
final class Check {
    private static int asked = 0;
    private static int wrong = 0;

    private Check() {
    }

    static void due(String call, long got, long want) {
        asked++;
        if (got != want) {
            wrong++;
            System.out.println(call + " answered " + got + ", due is " + want);
        }
    }

    static void holds(String rule, boolean holds) {
        asked++;
        if (!holds) {
            wrong++;
            System.out.println("broken: " + rule);
        }
    }

    /** Feeds a text, eight bytes at a time, to an object whose tape is empty. */
    static void feed(NylonLadder x, String text) {
        for (int i = 0; i < text.length(); i += 8) {
            int n = Math.min(8, text.length() - i);
            long eight = 0;
            for (int j = 0; j < n; j++) {
                eight |= (long) (text.charAt(i + j) & 255) << (8 * j);
            }
            due("feed of " + text, x.feed(eight, n), i + n);
        }
    }

    /** What drawer() answers to a text. */
    static int told(NylonLadder x, String text) {
        feed(x, text);
        return x.drawer();
    }

    static NylonLadder of(String text) {
        NylonLadder x = new NylonLadder();
        holds("is no text: " + text, told(x, text) >= 0);
        return x;
    }

    static void end(String test) {
        System.out.println(test + ": " + asked + " answers, " + wrong + " not as due");
        if (wrong != 0) {
            System.exit(1);
        }
    }
}
