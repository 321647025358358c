/** Each promise of the document in turn: ordinary inputs, the edges that it names, and wrong inputs. */
public final class PromisesTest extends Checks {
    public static void main(String[] args) {
        newObject();
        water();
        village();
        drowned();
        household();
        papers();
        tie();
        site();
        field();
        builders();
        feed();
        end();
        rules();
        tokens();
        faults();
        faultsOfLimits();
        look();
        of();
        dues();
        best();
        bestFirstOfSeveral();
        part();
        partOrder();
        months();
        building();
        Checks.finish();
    }

    private static NewValley withRules(String text) {
        NewValley x = new NewValley();
        Checks.rules(x, text);
        return x;
    }

    private static void newObject() {
        about("Promise 1");
        NewValley x = new NewValley();
        due("NONE", NewValley.NONE, -1);
        for (int what = 0; what <= 6; what++) {
            due("look(" + what + ")", x.look(what), 0);
        }
        for (int v = 0; v < 4; v++) {
            due("drowned", x.drowned(v), 36);
        }
        due("fault", x.fault(0), 0);
        due("place", x.fault(1), -1);
        due("bond", x.best(0), 0);
        due("of nobody", x.of(0, 0), -1);
        due("empty tape", x.rules(), 0);
        NewValley other = new NewValley();
        x.household(0, 1, 0, 0, true);
        due("objects have nothing in common", other.look(1), 0);
    }

    private static void water() {
        about("Promise 2");
        NewValley x = new NewValley();
        yes("month 0", x.water(0, 0));
        yes("month 35, level 99", x.water(35, 99));
        due("drowned", x.drowned(0), 35);
        for (int month : new int[] {-1, 36, LEAST, MOST}) {
            no("month " + month, x.water(month, 99));
        }
        for (int level : new int[] {-1, 100, LEAST, MOST}) {
            no("level " + level, x.water(7, level));
        }
        due("nothing was done", x.drowned(0), 35);
        yes("higher", x.water(7, 50));
        due("drowned", x.drowned(0), 7);
        yes("lower again", x.water(7, 49));
        due("drowned", x.drowned(0), 35);
        x.months(3);
        no("gone by", x.water(2, 60));
        yes("now", x.water(3, 60));
        due("drowned", x.drowned(0), 3);
    }

    private static void village() {
        about("Promise 3");
        NewValley x = new NewValley();
        x.water(4, 60);
        yes("height 60", x.village(3, 60));
        due("at the level", x.drowned(3), 4);
        yes("height 61", x.village(3, 61));
        due("above it", x.drowned(3), 36);
        for (int v : new int[] {-1, 4, LEAST, MOST}) {
            no("village " + v, x.village(v, 10));
        }
        for (int height : new int[] {-1, 100, LEAST, MOST}) {
            no("height " + height, x.village(3, height));
        }
        due("nothing was done", x.drowned(3), 36);
        yes("height 99", x.village(0, 99));
        yes("height 0", x.village(1, 0));
        due("height 0", x.drowned(1), 0);
        due("another village", x.drowned(2), 4);
        due("height 99", x.drowned(0), 36);
    }

    private static void drowned() {
        about("Promise 4");
        NewValley x = new NewValley();
        x.water(10, 50);
        x.water(20, 99);
        due("the first month", x.drowned(0), 10);
        for (int v : new int[] {-1, 4, LEAST, MOST}) {
            due("village " + v, x.drowned(v), -1);
        }
        x.months(12);
        due("months gone by count too", x.drowned(0), 10);
        x.village(0, 51);
        due("later", x.drowned(0), 20);
    }

    private static void household() {
        about("Promise 5");
        NewValley x = new NewValley();
        int[][] cannot = {{-1, 1, 0, 0}, {4, 1, 0, 0}, {0, 0, 0, 0}, {0, 21, 0, 0}, {0, 1, -1, 0}, {0, 1, 100, 0},
            {0, 1, 0, -1}, {0, 1, 0, 100}, {MOST, 1, 0, 0}, {0, MOST, 0, 0}, {0, 1, LEAST, 0}, {0, 1, 0, LEAST}};
        for (int[] it : cannot) {
            due("can't be", x.household(it[0], it[1], it[2], it[3], true), -1);
        }
        due("nothing was done", x.look(1), 0);
        due("the least", x.household(0, 1, 0, 0, false), 0);
        due("the most", x.household(3, 20, 99, 99, true), 1);
        for (int h = 2; h < 8; h++) {
            due("number", x.household(1, h, h, h, true), h);
        }
        due("the ninth", x.household(0, 1, 0, 0, true), -1);
        due("households", x.look(1), 8);
        due("people", x.of(7, 1), 7);
    }

    private static void papers() {
        about("Promise 6");
        NewValley x = new NewValley();
        no("nobody", x.papers(0));
        x.household(0, 1, 0, 0, false);
        x.household(0, 1, 0, 0, true);
        no("has them", x.papers(1));
        yes("gets them", x.papers(0));
        due("papers", x.of(0, 4), 1);
        no("has them now", x.papers(0));
        for (int h : new int[] {-1, 2, 8, LEAST, MOST}) {
            no("household " + h, x.papers(h));
        }
    }

    private static void tie() {
        about("Promise 7");
        NewValley x = withHouseholds(3);
        for (int s = 0; s < 3; s++) {
            x.site(0, 0);
        }
        yes("ties", x.tie(0, 1, 9));
        due("bond", x.best(0), 90);
        yes("the other way round is the same", x.tie(1, 0, 4));
        due("bond", x.best(0), 40);
        no("the same household", x.tie(1, 1, 1));
        for (int h : new int[] {-1, 3, 8, LEAST, MOST}) {
            no("household " + h, x.tie(0, h, 1));
            no("household " + h, x.tie(h, 0, 1));
        }
        for (int v : new int[] {-1, 10, LEAST, MOST}) {
            no("ties " + v, x.tie(0, 1, v));
        }
        due("nothing was done", x.best(0), 40);
        yes("none any more", x.tie(0, 1, 0));
        due("bond", x.best(0), 0);
    }

    private static void site() {
        about("Promise 8");
        NewValley x = new NewValley();
        for (int at : new int[] {-1, 21, LEAST, MOST}) {
            due("x " + at, x.site(at, 0), -1);
            due("y " + at, x.site(0, at), -1);
        }
        due("nothing was done", x.look(2), 0);
        due("the edge", x.site(20, 20), 0);
        due("the other edge", x.site(0, 0), 1);
        for (int s = 2; s < 8; s++) {
            due("number", x.site(0, 0), s);
        }
        due("the ninth", x.site(0, 0), -1);
        due("sites", x.look(2), 8);
    }

    private static void field() {
        about("Promise 9");
        NewValley x = new NewValley();
        for (int worth : new int[] {0, -1, 1000, LEAST, MOST}) {
            due("worth " + worth, x.field(worth), -1);
        }
        due("nothing was done", x.look(3), 0);
        for (int f = 0; f < 10; f++) {
            due("number", x.field(f == 0 ? 1 : 999), f);
        }
        due("the eleventh", x.field(1), -1);
        due("fields", x.look(3), 10);
    }

    private static void builders() {
        about("Promise 10");
        NewValley x = withHouseholds(8);
        yes("all at once", x.builders(35, 8));
        yes("none", x.builders(0, 0));
        due("the first", x.of(0, 7), 1);
        for (int month : new int[] {-1, 36, LEAST, MOST}) {
            no("month " + month, x.builders(month, 1));
        }
        for (int n : new int[] {-1, 9, LEAST, MOST}) {
            no("houses " + n, x.builders(1, n));
        }
        due("nothing was done", x.of(0, 7), 1);
        x.months(2);
        no("gone by", x.builders(1, 8));
        yes("now", x.builders(2, 8));
        due("the last", x.of(7, 7), 2);
    }

    private static void feed() {
        about("Promise 11");
        NewValley x = new NewValley();
        for (int i = 1; i <= 20; i++) {
            due("length", x.feed(0, 0, 0, 0, 0), 20 * i);
        }
        due("more than 400", x.feed(0, 0, 0, 0, 0), -1);
        yes("end", x.end(381));
        due("401 would be more", x.feed(0, 0, 0, 0, 0), -1);
        yes("end", x.end(380));
        due("400 is not", x.feed(0, 0, 0, 0, 0), 400);
        NewValley y = new NewValley();
        due("length", y.feed(0x67697665, 0x20312077, 0x68656e20, 0x313d313b, 0x80ffffff), 20);
        due("the highest first", y.rules(), -1);
        due("bytes above 127 can't stand", y.fault(1), 16);
    }

    private static void end() {
        about("Promise 12");
        NewValley x = new NewValley();
        yes("of nothing", x.end(0));
        no("more than there is", x.end(1));
        x.feed(0, 0, 0, 0, 0);
        for (int n : new int[] {-1, 21, LEAST, MOST}) {
            no("end(" + n + ")", x.end(n));
        }
        yes("all of it", x.end(20));
        yes("a part", x.end(7));
        no("what is gone stays so", x.end(8));
        due("comes behind", x.feed(0, 0, 0, 0, 0), 27);
        yes("nothing", x.end(0));
        due("comes behind nothing", x.feed(0, 0, 0, 0, 0), 20);
    }

    private static void rules() {
        about("Promise 13");
        NewValley x = withHouseholds(1);
        due("one", Checks.rules(x, "give 5 when 1 = 1;"), 1);
        due("due", x.of(0, 5), 5);
        no("the tape is empty then", x.end(1));
        due("a fault", Checks.rules(x, "give 6 when 1 = 1; give"), -1);
        due("they stay", x.look(4), 1);
        due("they stay", x.of(0, 5), 5);
        no("the tape is empty after a fault too", x.end(1));
        due("two", Checks.rules(x, "give 6 when 1 = 1; give 7 when 1 = 1;"), 2);
        due("due", x.of(0, 5), 6);
        due("blanks alone", Checks.rules(x, " \n  "), 0);
        due("none any more", x.look(4), 0);
        due("due", x.of(0, 5), 0);
    }

    private static void tokens() {
        about("Promise 13, tokens");
        accepts("give 1when 1=1and 2>1;give(land)when(1)=1;", 2);
        accepts("\ngive\n1\nwhen\n1\n=\n1\n;\n", 1);
        accepts("give 0000+9999*0/0001 when papers<trees;", 1);
        rejects("give 00000 when 1=1;", 1, 5);
        rejects("give\t1 when 1=1;", 1, 4);
        rejects("give\r1 when 1=1;", 1, 4);
        rejects("givE 1 when 1=1;", 1, 0);
        rejects("giveZ 1 when 1=1;", 1, 0);
        rejects("give give", 1, 5);
        rejects("give peoples when 1=1;", 1, 5);
        rejects("give peopl when 1=1;", 1, 5);
        rejects("give landtrees when 1=1;", 1, 5);
        rejects("give land trees when 1=1;", 1, 10);
        rejects("give 1 land when 1=1;", 1, 7);
        rejects("give 1land when 1=1;", 1, 6);
        rejects("give 1 2 when 1=1;", 1, 7);
        rejects("give 1 wh en 1=1;", 1, 7);
        rejects("give 1 when 1=1,", 1, 15);
        rejects("give 1 when 1=1\u00e9;", 1, 15);
        rejects("give 1 when 1=1\u0000;", 1, 15);
    }

    private static void faults() {
        about("Promise 14");
        NewValley x = new NewValley();
        for (int what : new int[] {-1, 2, LEAST, MOST}) {
            due("fault(" + what + ")", x.fault(what), -1);
        }
        Checks.rules(x, "give");
        due("fault", x.fault(0), 1);
        due("another what", x.fault(2), -1);
        Checks.rules(x, "");
        due("of the latest", x.fault(0), 0);
        due("of the latest", x.fault(1), -1);
        rejects("give   ", 1, 7);
        rejects("when", 1, 0);
        rejects(" ;", 1, 1);
        rejects("give ;", 1, 5);
        rejects("give 1;", 1, 6);
        rejects("give 1+ when 1=1;", 1, 8);
        rejects("give -1 when 1=1;", 1, 5);
        rejects("give 1 when 1;", 1, 13);
        rejects("give 1 when 1<2<3;", 1, 15);
        rejects("give 1 when 1=1 and;", 1, 19);
        rejects("give 1 when 1=1 and", 1, 19);
        rejects("give 1 and 1 when 1=1;", 1, 7);
        rejects("give 1 when 1=1 when 1=1;", 1, 16);
        rejects("give 1 when 1=1; 5", 1, 17);
        rejects("give 1 when 1=1", 1, 15);
        rejects("give (1 when 1=1;", 1, 8);
        rejects("give (1=1) when 1=1;", 1, 7);
        rejects("give 1) when 1=1;", 1, 6);
        rejects("give (1)) when 1=1;", 1, 8);
        rejects("give () when 1=1;", 1, 6);
        rejects("give (1)(2) when 1=1;", 1, 8);
        rejects("give 1 when (1)=(1;", 1, 18);
        rejects("give 1/0 when 1=1;", 2, 7);
        rejects("give 1/ 000 when 1=1;", 2, 8);
        rejects("give 1/00000 when 1=1;", 1, 7);
        rejects("give 1/(2) when 1=1;", 1, 7);
        rejects("give 1/people when 1=1;", 1, 7);
        rejects("give 1/2/0 when", 2, 9);
        rejects("give 1/", 1, 7);
        rejects("give 1/0 $", 2, 7);
        rejects("give $ 1/0", 1, 5);
        rejects("give 2 when (1+3)/0=1;", 2, 18);
    }

    private static void faultsOfLimits() {
        about("Promise 14, limits");
        String rule = "give 1 when 1=1;";
        accepts(rule.repeat(10), 10);
        accepts(rule.repeat(10) + "  ", 10);
        rejects(rule.repeat(11), 3, 160);
        rejects(rule.repeat(10) + " give", 3, 161);
        rejects(rule.repeat(10) + "land", 1, 160);
        rejects(rule.repeat(10) + "gives", 1, 160);
        accepts("give ((((((((1)))))))) when 1=1;", 1);
        accepts("give ((((((((1))))))))+((((((((1)))))))) when ((((((((1))))))))=((((((((1))))))));", 1);
        accepts("give (((((((1+(2))-(3)))))))*(4) when 1=1;", 1);
        rejects("give (((((((((1))))))))) when 1=1;", 3, 13);
        rejects("give ((((((((1+(2", 3, 15);
        rejects("give ((((((((1(", 1, 14);
        rejects("give 1 when 1 = (((((((((", 3, 24);
        StringBuilder full = new StringBuilder("give 1");
        while (full.length() < 390) {
            full.append("+1");
        }
        accepts(full + " when 1=1;", 1);
        rejects(")".repeat(400), 1, 0);
        rejects(full + " when 1=1 ", 1, 400);
    }

    private static void look() {
        about("Promise 15");
        NewValley x = withHouseholds(3);
        x.site(1, 1);
        x.site(1, 1);
        x.field(3);
        Checks.rules(x, "give 1 when 1=1;give 1 when 1=1;");
        x.water(3, 50);
        x.builders(1, 0);
        due("late", x.look(6), 1);
        x.months(4);
        int[] want = {4, 3, 2, 1, 2, 3, 1};
        for (int what = 0; what < want.length; what++) {
            due("look(" + what + ")", x.look(what), want[what]);
        }
        for (int what : new int[] {-1, 7, LEAST, MOST}) {
            due("look(" + what + ")", x.look(what), -1);
        }
    }

    private static void of() {
        about("Promise 16");
        NewValley x = new NewValley();
        x.household(2, 3, 4, 5, true);
        x.household(1, 20, 99, 98, false);
        Checks.rules(x, "give 7 when papers > 0;");
        x.village(2, 0);
        int[][] want = {{2, 3, 4, 5, 1, 7, 0, 0, 1}, {1, 20, 99, 98, 0, 0, -1, 1, 0}};
        for (int h = 0; h < 2; h++) {
            for (int what = 0; what < 9; what++) {
                due("of(" + h + ", " + what + ")", x.of(h, what), want[h][what]);
            }
        }
        for (int h : new int[] {-1, 2, 8, LEAST, MOST}) {
            due("household " + h, x.of(h, 0), -1);
        }
        for (int what : new int[] {-1, 9, LEAST, MOST}) {
            due("what " + what, x.of(0, what), -1);
        }
    }

    private static void gives(String sum, int want) {
        NewValley x = new NewValley();
        x.household(0, 7, 11, 13, true);
        due("a rule", Checks.rules(x, "give " + sum + " when 1=1;"), 1);
        due(sum, x.of(0, 5), want);
    }

    private static void isSo(String test, boolean want) {
        NewValley x = new NewValley();
        x.household(0, 7, 11, 13, false);
        due("a rule", Checks.rules(x, "give 1 when " + test + ";"), 1);
        due(test, x.of(0, 6), want ? 0 : -1);
    }

    private static void dues() {
        about("Promise 16, due");
        gives("people*1000+land*10+trees*5+papers", 7176);
        gives("20-3-4", 13);
        gives("20-(3-4)", 21);
        gives("2+3*4", 14);
        gives("2*3+4*5", 26);
        gives("(2+3)*4", 20);
        gives("7/2*2", 6);
        gives("2*7/2", 7);
        gives("100/7/2", 7);
        gives("1+2*9/4-3", 2);
        gives("1+(2*(3+4)-(5-1))/2*3", 16);
        gives("10-(0-7)/2", 13);
        gives("(1-8)/2+10", 7);
        gives("0-1", 0);
        gives("9999+1", 9999);
        gives("9999", 9999);
        gives("9999*9999*22", 0);
        gives("9999*9999*43", 9999);
        gives("9999*9999*43/1000", 4172);
        String deepest = "1+2*(".repeat(8) + "3" + ")".repeat(8);
        gives(deepest, 1023);
        isSo("1=1 and 1023=" + deepest, true);
        isSo("1=2 and 1023=" + deepest, false);
        isSo("1=1 and 1022=" + deepest, false);
        isSo("1<2", true);
        isSo("2<2", false);
        isSo("2=2", true);
        isSo("2>2", false);
        isSo("3>2", true);
        isSo("3=2", false);
        isSo("papers=0 and people=7 and trees>land", true);
        isSo("papers=0 and people=8 and trees>land", false);
        isSo("papers=1 and people=7", false);
        isSo("0-1<0", true);
        isSo("9999*9999*22<0", true);
        NewValley x = withRules("give 1 when people>5; give 2 when people>3; give 3 when people<3;");
        x.household(0, 6, 0, 0, true);
        x.household(0, 4, 0, 0, true);
        x.household(0, 3, 0, 0, true);
        x.household(0, 2, 0, 0, true);
        int[] want = {1, 2, 0, 3};
        for (int h = 0; h < 4; h++) {
            due("the first that is so", x.of(h, 5), want[h]);
            due("its number", x.of(h, 6), want[h] - 1);
        }
    }

    private static void best() {
        about("Promise 17");
        NewValley x = new NewValley();
        due("without households", x.best(0), 0);
        due("no such household", x.best(10), -1);
        x = withHouseholds(2);
        x.site(0, 0);
        due("not sites enough", x.best(0), -1);
        due("not sites enough", x.best(10), -1);
        x.site(20, 20);
        x.tie(0, 1, 9);
        due("far apart", x.best(0), 0);
        x.site(18, 17);
        due("near", x.best(0), 45);
        due("the lesser first", x.best(10), 1);
        due("the other", x.best(11), 2);
        for (int what : new int[] {-1, 1, 2, 9, 12, 17, 18, LEAST, MOST}) {
            due("best(" + what + ")", x.best(what), -1);
        }
        x.household(0, 1, 1, 1, true);
        x.tie(0, 2, 5);
        due("a new household counts", x.best(0), 45);
        due("the one that is left", x.best(12), 0);
        x.household(0, 1, 1, 1, true);
        due("one more than there are sites", x.best(0), -1);
        x.site(19, 20);
        due("a new site counts", x.best(0), 9 * 9 + 5 * 6);
    }

    private static void bestFirstOfSeveral() {
        about("Promise 17, order");
        NewValley x = withHouseholds(8);
        for (int s = 0; s < 8; s++) {
            x.site(3, 3);
        }
        for (int h = 0; h < 8; h++) {
            due("without ties in order", x.best(10 + h), h);
        }
        for (int a = 0; a < 8; a++) {
            for (int b = 0; b < a; b++) {
                x.tie(a, b, 9);
            }
        }
        due("the greatest bond of all", x.best(0), 2520);
        for (int h = 0; h < 8; h++) {
            due("all ways are as good", x.best(10 + h), h);
        }
        NewValley y = withHouseholds(2);
        for (int[] at : new int[][] {{0, 0}, {10, 10}, {20, 0}, {20, 1}, {11, 10}}) {
            y.site(at[0], at[1]);
        }
        y.tie(0, 1, 1);
        due("near of 9", y.best(0), 9);
        due("of two pairs the lesser first", y.best(10), 1);
        due("its other", y.best(11), 4);
        y.tie(0, 1, 0);
        due("of all ways the first", y.best(11), 1);
    }

    private static void part() {
        about("Promise 18");
        isParted(new NewValley(), 0, 0);
        NewValley x = withDues(5, 0, 3);
        isParted(x, 2, 0, 0, 0, 0);
        x.field(2);
        isParted(x, 2, 0, 0, 0, 0);
        x.field(4);
        isParted(x, 6, 4, 0, 0, 2);
        x.field(9);
        isParted(x, 7, 13, 4, 0, 2);
        x.field(3);
        isParted(x, 7, 9, 3, 0, 8);
    }

    private static void partOrder() {
        about("Promise 18, order");
        NewValley most = withDues(10, 5, 5);
        most.field(5);
        most.field(5);
        isParted(most, 6, 10, 0, 1, 2);
        NewValley least = withDues(9, 8);
        least.field(9);
        isParted(least, 1, 9, 1, 0);
        least.field(8);
        isParted(least, 3, 17, 1, 2);
        NewValley who = withDues(5, 5, 5);
        who.field(6);
        who.field(6);
        isParted(who, 3, 12, 1, 2, 0);
        NewValley cheaper = withDues(6, 5);
        cheaper.field(5);
        cheaper.field(1);
        isParted(cheaper, 2, 5, 0, 1);
        NewValley sets = withDues(3, 3);
        for (int worth : new int[] {3, 2, 1, 3}) {
            sets.field(worth);
        }
        isParted(sets, 3, 6, 1, 6);
        NewValley all = withDues(999, 999, 999, 999, 999, 999, 999, 999);
        for (int f = 0; f < 10; f++) {
            all.field(999);
        }
        isParted(all, 255, 7992, 1, 2, 4, 8, 16, 32, 64, 128);
        NewValley one = withDues(9990, 1);
        for (int f = 0; f < 10; f++) {
            one.field(999);
        }
        isParted(one, 2, 999, 0, 1);
        NewValley whole = withDues(9990);
        for (int f = 0; f < 10; f++) {
            whole.field(999);
        }
        isParted(whole, 1, 9990, 1023);
        NewValley changing = withDues(5);
        changing.field(7);
        isParted(changing, 1, 7, 1);
        Checks.rules(changing, "give 8 when papers = 1;");
        isParted(changing, 0, 0, 0);
        changing.household(0, 1, 0, 0, false);
        isParted(changing, 2, 0, 0, 0);
        Checks.rules(changing, "give 6 when papers = 1;");
        isParted(changing, 3, 7, 1, 0);
        changing.papers(1);
        isParted(changing, 1, 7, 1, 0);
        changing.field(6);
        isParted(changing, 3, 13, 1, 2);
    }

    private static void months() {
        about("Promise 19");
        NewValley x = new NewValley();
        for (int n : new int[] {0, -1, 13, LEAST, MOST}) {
            due("months(" + n + ")", x.months(n), -1);
        }
        due("nothing was done", x.look(0), 0);
        due("twelve", x.months(12), 12);
        due("twelve", x.months(12), 24);
        due("beyond 35", x.months(12), -1);
        due("nothing was done", x.look(0), 24);
        due("eleven", x.months(11), 35);
        due("beyond 35", x.months(1), -1);
        due("the last month", x.look(0), 35);
    }

    private static void building() {
        about("Promise 19, houses");
        NewValley x = withHouseholds(2);
        x.household(1, 1, 0, 0, true);
        x.water(2, 50);
        x.village(1, 0);
        due("the first drowned first", x.of(2, 7), 0);
        due("then by numbers", x.of(0, 7), 1);
        due("then by numbers", x.of(1, 7), 2);
        due("ready at the end of the month ahead", x.of(0, 8), 0);
        due("a month too late", x.of(1, 8), 1);
        due("drowned in month 0", x.of(2, 8), 1);
        x.months(1);
        due("one house is ready", x.look(5), 1);
        x.village(1, 99);
        due("what is built stays", x.of(2, 7), 0);
        due("not late any more", x.look(6), 1);
        x.builders(1, 2);
        due("more builders", x.look(6), 0);
        for (int m = 1; m < 36; m++) {
            x.builders(m, 0);
        }
        due("not within all months", x.of(0, 7), -1);
        due("late then", x.of(0, 8), 1);
        x.water(2, 0);
        due("never drowned, never late", x.of(0, 8), 0);
        x.builders(35, 8);
        due("in the last month", x.of(1, 7), 35);
        x.months(12);
        x.months(12);
        x.months(10);
        due("the last month is not at its end", x.look(5), 1);
        x.water(35, 99);
        due("late in the last month", x.look(6), 2);
    }
}
