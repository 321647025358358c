/** What the tests share: counting wrong answers, feeding a text, and seeing whether a refused call did nothing. */
abstract class Checks {
    static final int LEAST = Integer.MIN_VALUE;
    static final int MOST = Integer.MAX_VALUE;
    private static final int MOST_CALLS = 512;

    private static int wrong = 0;
    private static int asked = 0;
    private static String subject = "";

    /** The sentence of the document that the next checks are about. */
    static void about(String sentence) {
        subject = sentence + " >> ";
    }

    static void due(String what, long got, long want) {
        asked++;
        if (got != want) {
            wrong++;
            System.out.println(subject + what + " answered " + got + ", due is " + want);
        }
    }

    static void due(String what, boolean got, boolean want) {
        due(what, got ? 1 : 0, want ? 1 : 0);
    }

    static void yes(String what, boolean got) {
        due(what, got, true);
    }

    static void no(String what, boolean got) {
        due(what, got, false);
    }

    static int wrong() {
        return wrong;
    }

    static void finish() {
        System.out.println(wrong + " wrong of " + asked);
        if (wrong > 0) {
            System.exit(1);
        }
    }

    /** Numbers outside of least .. most: those beside it, those far off, and some that a narrower type would let in. */
    static int[] outside(int least, int most) {
        return new int[] {least - 1, most + 1, LEAST, MOST, least - 256, most + 256, most + 65536, LEAST + most};
    }

    /** The i-th of the numbers that feed(..) takes for a text, with blanks behind it. */
    static int number(String text, int i) {
        int number = 0;
        for (int at = 4 * i; at < 4 * i + 4; at++) {
            number = number << 8 | (at < text.length() ? text.charAt(at) & 255 : 32);
        }
        return number;
    }

    /** Feeds a text and blanks behind it up to twenty bytes; the answer is the last feed's. */
    static int feed(NewValley x, String text) {
        int length = 0;
        for (int i = 0; 4 * i < text.length(); i += 5) {
            length = x.feed(number(text, i), number(text, i + 1), number(text, i + 2), number(text, i + 3),
                    number(text, i + 4));
        }
        return length;
    }

    /** Makes a text the TAPE of an object whose TAPE is empty. */
    static void tape(NewValley x, String text) {
        feed(x, text);
        x.end(text.length());
    }

    static int rules(NewValley x, String text) {
        tape(x, text);
        return x.rules();
    }

    static void rejects(String text, int fault, int place) {
        NewValley x = new NewValley();
        due("rules() of '" + text + "'", rules(x, text), -1);
        due("FAULT of '" + text + "'", x.fault(0), fault);
        due("place in '" + text + "'", x.fault(1), place);
        due("RULES of '" + text + "'", x.look(4), 0);
    }

    static void accepts(String text, int many) {
        NewValley x = new NewValley();
        due("rules() of '" + text + "'", rules(x, text), many);
        due("FAULT of '" + text + "'", x.fault(0), 0);
        due("place in '" + text + "'", x.fault(1), -1);
        due("RULES of '" + text + "'", x.look(4), many);
    }

    static void isParted(NewValley x, int served, int worth, int... sets) {
        due("how many are SERVED", x.part(0), Integer.bitCount(served));
        due("WORTH given", x.part(1), worth);
        due("who is SERVED", x.part(2), served);
        for (int h = 0; h < sets.length; h++) {
            due("set of " + h, x.part(10 + h), sets[h]);
        }
        for (int what : new int[] {-1, 3, 9, 10 + sets.length, LEAST, MOST}) {
            due("part(" + what + ")", x.part(what), -1);
        }
    }

    static NewValley withHouseholds(int n) {
        NewValley x = new NewValley();
        for (int h = 0; h < n; h++) {
            x.household(0, 1, 0, 0, true);
        }
        return x;
    }

    static NewValley withDues(int... dues) {
        StringBuilder text = new StringBuilder();
        NewValley x = new NewValley();
        for (int h = 0; h < dues.length; h++) {
            x.household(0, h + 1, 0, 0, true);
            text.append("give ").append(dues[h]).append(" when people=").append(h + 1).append(";");
        }
        rules(x, text.toString());
        return x;
    }

    /** A valley in its MONTH 2 in which there is some of everything, and room for more. */
    static NewValley busyValley() {
        NewValley x = new NewValley();
        x.water(1, 20);
        x.water(5, 60);
        x.water(9, 80);
        for (int v = 0; v < 4; v++) {
            x.village(v, 20 + 20 * v);
        }
        x.household(0, 4, 10, 20, true);
        x.household(1, 2, 5, 7, false);
        x.household(2, 9, 30, 0, true);
        x.household(3, 1, 0, 3, false);
        x.tie(0, 1, 3);
        x.tie(1, 2, 7);
        x.tie(0, 3, 2);
        for (int s = 0; s < 5; s++) {
            x.site(4 * s % 7, 3 * s);
            x.field(7 + 5 * s);
        }
        x.builders(0, 0);
        x.builders(3, 2);
        rules(x, "give land when papers=1;give trees+people when land>3;");
        rules(x, "give 1/0");
        x.months(2);
        return x;
    }

    /** All that can be asked of an object, but for its TAPE. */
    static String picture(NewValley x) {
        StringBuilder seen = new StringBuilder();
        for (int what = 0; what < 7; what++) {
            seen.append(" look ").append(what).append(": ").append(x.look(what));
        }
        for (int v = 0; v < 4; v++) {
            seen.append(" drowned ").append(v).append(": ").append(x.drowned(v));
        }
        for (int h = 0; h < 8; h++) {
            for (int what = 0; what < 9; what++) {
                seen.append(" of ").append(h).append(' ').append(what).append(": ").append(x.of(h, what));
            }
            seen.append(" best ").append(10 + h).append(": ").append(x.best(10 + h));
            seen.append(" part ").append(10 + h).append(": ").append(x.part(10 + h));
        }
        seen.append(" best 0: ").append(x.best(0));
        for (int what = 0; what < 3; what++) {
            seen.append(" part ").append(what).append(": ").append(x.part(what));
        }
        seen.append(" fault ").append(x.fault(0)).append(" at ").append(x.fault(1));
        return seen.toString();
    }

    static void isUnchanged(String before, NewValley x) {
        String after = picture(x);
        asked++;
        if (!after.equals(before)) {
            wrong++;
            System.out.println(subject + "something was done: from" + before + "\n    to" + after);
        }
    }

    /** What is answered behind the 512th call of an object is free: no test may look at it. */
    static void isWithinCalls(int calls) {
        if (calls > MOST_CALLS) {
            throw new IllegalStateException(subject + calls + " calls on one object");
        }
    }
}
