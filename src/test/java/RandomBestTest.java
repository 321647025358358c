import java.util.Random;

/** Many small valleys in which several WAYS and PARTINGS are nearly as good: every answer as the plain model's. */
public final class RandomBestTest extends Checks {
    private static final int VALLEYS = 1000;

    private final Random random;
    private NewValley x;
    private PlainValley plain;
    private int households;

    private RandomBestTest(int seed) {
        random = new Random(seed);
        about("valley " + seed);
    }

    public static void main(String[] args) {
        for (int seed = 0; seed < VALLEYS && wrong() < 20; seed++) {
            RandomBestTest test = new RandomBestTest(seed);
            test.ways();
            test.partings();
        }
        Checks.finish();
    }

    private void begin(int most) {
        x = new NewValley();
        plain = new PlainValley();
        households = 0;
        for (int h = random.nextInt(most); h >= 0; h--) {
            addHousehold();
        }
    }

    private void addHousehold() {
        due("household", x.household(0, households + 1, 0, 0, true), plain.household(0, households + 1, 0, 0, true));
        households++;
    }

    private void ways() {
        begin(5);
        int width = 1 + random.nextInt(9);
        int mostTies = 1 + random.nextInt(9);
        for (int s = random.nextInt(3) + households; s > 0; s--) {
            addSite(width);
        }
        for (int round = 0; round < 4; round++) {
            for (int i = 0; i < 4; i++) {
                int a = random.nextInt(households);
                int b = random.nextInt(households);
                int v = random.nextInt(mostTies + 1);
                due("tie(" + a + ", " + b + ", " + v + ")", x.tie(a, b, v), plain.tie(a, b, v));
            }
            askBest();
        }
        addSite(width);
        askBest();
        addHousehold();
        askBest();
    }

    private void addSite(int width) {
        int sx = random.nextInt(width);
        int sy = random.nextInt(width);
        due("site(" + sx + ", " + sy + ")", x.site(sx, sy), plain.site(sx, sy));
    }

    private void askBest() {
        due("best(0)", x.best(0), plain.best(0));
        for (int h = 0; h < households; h++) {
            due("best(" + (10 + h) + ")", x.best(10 + h), plain.best(10 + h));
        }
    }

    private void partings() {
        begin(random.nextInt(40) == 0 ? 7 : 5);
        int mostWorth = 1 + random.nextInt(9);
        int fields = random.nextInt(40) == 0 ? 10 : random.nextInt(7);
        for (int f = 0; f < fields; f++) {
            addField(mostWorth);
        }
        for (int round = 0; round < 4; round++) {
            giveDues(2 + random.nextInt(2 * mostWorth + 1));
            askPart();
        }
        addField(mostWorth);
        askPart();
        addHousehold();
        askPart();
    }

    private void addField(int mostWorth) {
        int worth = 1 + random.nextInt(mostWorth);
        due("field(" + worth + ")", x.field(worth), plain.field(worth));
    }

    private void giveDues(int most) {
        StringBuilder text = new StringBuilder();
        for (int h = 0; h < households; h++) {
            int it = random.nextInt(9) == 0 ? 9999 : random.nextInt(most);
            text.append("give ").append(it).append(" when people=").append(h + 1).append(';');
        }
        for (int i = 0; 4 * i < text.length(); i += 5) {
            int[] bytes = new int[5];
            for (int j = 0; j < 5; j++) {
                bytes[j] = number(text.toString(), i + j);
            }
            due("feed", x.feed(bytes[0], bytes[1], bytes[2], bytes[3], bytes[4]),
                    plain.feed(bytes[0], bytes[1], bytes[2], bytes[3], bytes[4]));
        }
        due("rules() of " + text, x.rules(), plain.rules());
    }

    private void askPart() {
        for (int what = 0; what < 3; what++) {
            due("part(" + what + ")", x.part(what), plain.part(what));
        }
        for (int h = 0; h < households; h++) {
            due("part(" + (10 + h) + ")", x.part(10 + h), plain.part(10 + h));
        }
    }
}
