/** What the tests share: counting wrong answers, and feeding a text. */
final class Checks {
    private static int wrong = 0;
    private static int asked = 0;

    private Checks() {
    }

    static void due(String what, long got, long want) {
        asked++;
        if (got != want) {
            wrong++;
            System.out.println(what + " answered " + got + ", due is " + want);
        }
    }

    static void due(String what, boolean got, boolean want) {
        due(what, got ? 1 : 0, want ? 1 : 0);
    }

    static int wrong() {
        return wrong;
    }

    static void finish() {
        System.out.println(wrong + " wrong of " + asked);
        if (wrong > 0) {
            System.exit(1);
        }
    }

    /** The i-th of the numbers that feed(..) takes for a text, with blanks behind it. */
    static int number(String text, int i) {
        int number = 0;
        for (int at = 4 * i; at < 4 * i + 4; at++) {
            number = number << 8 | (at < text.length() ? text.charAt(at) & 255 : 32);
        }
        return number;
    }

    /** Makes a text the TAPE of an object whose TAPE is empty. */
    static void tape(NewValley x, String text) {
        for (int i = 0; 4 * i < text.length(); i += 5) {
            x.feed(number(text, i), number(text, i + 1), number(text, i + 2), number(text, i + 3), number(text, i + 4));
        }
        x.end(text.length());
    }

    static int rules(NewValley x, String text) {
        tape(x, text);
        return x.rules();
    }
}
