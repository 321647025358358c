import java.util.Random;

/** Random runs of calls on the program and on the plain model: every answer must be the same. */
public final class RandomRunsTest extends Checks {
    private static final int RUNS = 360;
    /** Calls of the last questions, of a change with all that it feeds, and what is left for the rest of a run. */
    private static final int LAST_CALLS = 150;
    private static final int CALLS_OF_A_CHANGE = 30;
    private static final int FREE_CALLS = 512 - LAST_CALLS - CALLS_OF_A_CHANGE;
    private static final int LONGEST_TEXT = 440;
    private static final String[] TOKENS = {"give ", "when ", " and ", "people", "land", "trees", "papers", "(", ")", "(",
        "+", "-", "*", "/", "<", "=", ">", ";", "0", "1", "7", "00", "0010", "9999", "12345", " ", "\n", "\t", "Land", "x", "\u00e9"};

    private final Random random;
    private final NewValley x = new NewValley();
    private final PlainValley plain = new PlainValley();
    private int calls = 0;
    /** How much is there at most, so that some runs stay small enough for all PARTINGS to be tried. */
    private final int mostFields;
    private final int mostHouseholds;
    private int households = 0;
    private int fields = 0;

    private RandomRunsTest(int seed) {
        random = new Random(seed);
        about("run " + seed);
        mostFields = seed % 8 == 0 ? 10 : random.nextInt(7);
        mostHouseholds = seed % 8 == 0 ? 6 + random.nextInt(3) : random.nextInt(6);
    }

    public static void main(String[] args) {
        for (int seed = 0; seed < RUNS && Checks.wrong() < 20; seed++) {
            new RandomRunsTest(seed).run();
        }
        Checks.finish();
    }

    private void run() {
        while (calls < FREE_CALLS) {
            if (random.nextBoolean()) {
                change();
            } else {
                ask();
            }
        }
        for (int h = -1; h < 9; h++) {
            askAllOf(h);
        }
        askAll();
        isWithinCalls(calls);
    }

    /** Every call on the object comes by here once. */
    private void same(String call, long got, long want) {
        calls++;
        due("call " + calls + ": " + call, got, want);
    }

    private void same(String call, boolean got, boolean want) {
        same(call, got ? 1 : 0, want ? 1 : 0);
    }

    private int mostly(int least, int most) {
        if (random.nextInt(12) == 0) {
            int[] odd = {least - 1, most + 1, least, most, Integer.MIN_VALUE, Integer.MAX_VALUE, -1};
            return odd[random.nextInt(odd.length)];
        }
        return least + random.nextInt(most - least + 1);
    }

    private void change() {
        switch (random.nextInt(16)) {
            case 0, 1 -> water(mostly(0, 35), mostly(0, 99));
            case 2 -> village(mostly(0, 3), mostly(0, 99));
            case 3, 4 -> household();
            case 5 -> papers(mostly(0, 7));
            case 6, 7 -> tie(mostly(0, 7), mostly(0, 7), mostly(0, 9));
            case 8 -> site(mostly(0, 20), mostly(0, 20));
            case 9 -> site(mostly(0, 4), mostly(0, 4));
            case 10, 11 -> field();
            case 12 -> builders(mostly(0, 35), random.nextInt(3) == 0 ? mostly(0, 8) : mostly(0, 1));
            case 13, 14 -> rules();
            default -> months();
        }
    }

    private void water(int m, int level) {
        same("water(" + m + ", " + level + ")", x.water(m, level), plain.water(m, level));
    }

    private void village(int v, int height) {
        same("village(" + v + ", " + height + ")", x.village(v, height), plain.village(v, height));
    }

    private void household() {
        int v = mostly(0, 3);
        int people = mostly(1, 20);
        int land = mostly(0, 99);
        int trees = mostly(0, 99);
        boolean papers = random.nextBoolean();
        if (households >= mostHouseholds && mostHouseholds < 8) {
            return;
        }
        int want = plain.household(v, people, land, trees, papers);
        same("household", x.household(v, people, land, trees, papers), want);
        households += want >= 0 ? 1 : 0;
    }

    private void papers(int h) {
        same("papers(" + h + ")", x.papers(h), plain.papers(h));
    }

    private void tie(int a, int b, int v) {
        same("tie(" + a + ", " + b + ", " + v + ")", x.tie(a, b, v), plain.tie(a, b, v));
    }

    private void site(int sx, int sy) {
        same("site(" + sx + ", " + sy + ")", x.site(sx, sy), plain.site(sx, sy));
    }

    private void field() {
        if (fields >= mostFields && mostFields < 10) {
            return;
        }
        int worth = random.nextBoolean() ? mostly(1, 999) : mostly(1, 12);
        int want = plain.field(worth);
        same("field(" + worth + ")", x.field(worth), want);
        fields += want >= 0 ? 1 : 0;
    }

    private void builders(int m, int n) {
        same("builders(" + m + ", " + n + ")", x.builders(m, n), plain.builders(m, n));
    }

    private void months() {
        int n = random.nextInt(4) == 0 ? mostly(1, 12) : mostly(1, 2);
        same("months(" + n + ")", x.months(n), plain.months(n));
    }

    private void rules() {
        String text = random.nextInt(3) == 0 ? spoilt(text()) : text();
        if (random.nextInt(20) == 0) {
            text = text + text + text + text;
        }
        text = text.substring(0, Math.min(text.length(), LONGEST_TEXT));
        for (int i = 0; 4 * i < text.length(); i += 5) {
            int a = number(text, i);
            int b = number(text, i + 1);
            int c = number(text, i + 2);
            int d = number(text, i + 3);
            int e = number(text, i + 4);
            same("feed", x.feed(a, b, c, d, e), plain.feed(a, b, c, d, e));
        }
        int n = random.nextInt(10) == 0 ? mostly(0, 400) : text.length();
        same("end(" + n + ")", x.end(n), plain.end(n));
        String call = "rules() of '" + text + "'";
        same(call, x.rules(), plain.rules());
        for (int what = -1; what < 3; what++) {
            same(call + " fault(" + what + ")", x.fault(what), plain.fault(what));
        }
    }

    private String text() {
        StringBuilder text = new StringBuilder();
        int many = random.nextInt(30) == 0 ? 9 + random.nextInt(4) : random.nextInt(5);
        for (int r = 0; r < many; r++) {
            int depth = many > 8 ? 0 : random.nextInt(30) == 0 ? 10 : random.nextInt(4);
            text.append("give ").append(sum(depth)).append(blank()).append("when ").append(test());
            while (random.nextInt(3) == 0) {
                text.append(" and").append(blank()).append(' ').append(test());
            }
            text.append(blank()).append(';').append(blank());
        }
        return text.toString();
    }

    private String test() {
        return sum(random.nextInt(2)) + blank() + "<=>".charAt(random.nextInt(3)) + blank() + sum(random.nextInt(2));
    }

    private String sum(int depth) {
        StringBuilder text = new StringBuilder(product(depth));
        while (random.nextInt(3) == 0) {
            text.append(blank()).append(random.nextBoolean() ? '+' : '-').append(product(depth - 2));
        }
        return text.toString();
    }

    private String product(int depth) {
        StringBuilder text = new StringBuilder(unit(depth));
        while (random.nextInt(3) == 0) {
            boolean times = random.nextBoolean();
            text.append(times ? "*" : "/").append(blank());
            text.append(times ? unit(depth - 1) : "" + (random.nextInt(12) == 0 ? 0 : 1 + random.nextInt(40)));
        }
        return text.toString();
    }

    private String unit(int depth) {
        if (depth > 0) {
            return "(" + blank() + sum(depth - 1) + ")";
        }
        String[] units = {"people", "land", "trees", "papers", "0", "1", "17", "" + random.nextInt(10000), "9999"};
        return units[random.nextInt(units.length)];
    }

    private String blank() {
        return random.nextInt(6) == 0 ? random.nextBoolean() ? " " : "\n" : "";
    }

    private String spoilt(String text) {
        String spoilt = text;
        for (int i = random.nextInt(3); i >= 0; i--) {
            int from = random.nextInt(spoilt.length() + 1);
            int to = Math.min(spoilt.length(), from + random.nextInt(4));
            String between = random.nextBoolean() ? TOKENS[random.nextInt(TOKENS.length)] : "";
            spoilt = spoilt.substring(0, from) + between + spoilt.substring(to);
        }
        return spoilt;
    }

    private void ask() {
        switch (random.nextInt(6)) {
            case 0 -> {
                int v = mostly(0, 3);
                same("drowned(" + v + ")", x.drowned(v), plain.drowned(v));
            }
            case 1 -> {
                int what = mostly(0, 6);
                same("look(" + what + ")", x.look(what), plain.look(what));
            }
            case 2, 3 -> {
                int h = mostly(0, Math.max(households, 1));
                int what = mostly(0, 8);
                same("of(" + h + ", " + what + ")", x.of(h, what), plain.of(h, what));
            }
            case 4 -> {
                int what = random.nextInt(3) == 0 ? mostly(0, 1) : mostly(10, 17);
                if (households < 7 || random.nextInt(8) == 0) {
                    same("best(" + what + ")", x.best(what), plain.best(what));
                }
            }
            default -> {
                int what = random.nextInt(3) == 0 ? mostly(0, 3) : mostly(10, 17);
                if (fields < 9 || random.nextInt(8) == 0) {
                    same("part(" + what + ")", x.part(what), plain.part(what));
                }
            }
        }
    }

    private void askAllOf(int h) {
        for (int what = -1; what < 10; what++) {
            same("of(" + h + ", " + what + ")", x.of(h, what), plain.of(h, what));
        }
        same("best(" + (10 + h) + ")", x.best(10 + h), plain.best(10 + h));
        same("part(" + (10 + h) + ")", x.part(10 + h), plain.part(10 + h));
    }

    private void askAll() {
        for (int what = -1; what < 8; what++) {
            same("look(" + what + ")", x.look(what), plain.look(what));
        }
        same("best(0)", x.best(0), plain.best(0));
        for (int what = 0; what < 3; what++) {
            same("part(" + what + ")", x.part(what), plain.part(what));
        }
    }
}
