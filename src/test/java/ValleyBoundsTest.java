/** Part 1 of the document's terms, and promises 1 to 6: each sentence that names a bound. */
public final class ValleyBoundsTest extends Checks {
    public static void main(String[] args) {
        newObjectHasNobody();
        newObjectHasNoRules();
        callsAreAnsweredUpToThe512th();
        monthIs0AtFirst();
        monthsAre0To35();
        levelsAre0To99();
        levelIs0AtFirst();
        waterIsNowOrLater();
        refusedWaterDoesNothing();
        villagesAre0To3();
        heightsAre0To99();
        heightIs50AtFirst();
        refusedVillageDoesNothing();
        drownedAtItsHeight();
        drownedInTheFirstMonth();
        drownedInAMonthGoneBy();
        drownedNever();
        drownedOfNoVillage();
        householdsAreNumberedAsTheyCome();
        householdOfAVillage();
        peopleAre1To20();
        landIs0To99();
        treesAre0To99();
        withPapersOrWithout();
        refusedHouseholdDoesNothing();
        ninthHouseholdDoesNothing();
        papersOfNoHousehold();
        papersThatItHas();
        Checks.finish();
    }

    private static void newObjectHasNobody() {
        about("Promise 1: Nobody");
        NewValley x = new NewValley();
        due("NONE", NewValley.NONE, -1);
        for (int what = 0; what < 7; what++) {
            due("look(" + what + ")", x.look(what), 0);
        }
        for (int what = 0; what < 9; what++) {
            due("of(0, " + what + ")", x.of(0, what), -1);
        }
        due("best(0)", x.best(0), 0);
        due("best(10)", x.best(10), -1);
        due("part(0)", x.part(0), 0);
        due("part(1)", x.part(1), 0);
        due("part(2)", x.part(2), 0);
        due("part(10)", x.part(10), -1);
    }

    private static void newObjectHasNoRules() {
        about("Promise 1: no RULES");
        NewValley x = withHouseholds(1);
        due("RULES", x.look(4), 0);
        due("DUE", x.of(0, 5), 0);
        due("the RULE by which", x.of(0, 6), -1);
        due("FAULT", x.fault(0), 0);
        due("its place", x.fault(1), -1);
        yes("the TAPE has no byte", x.end(0));
        no("the TAPE has one byte", x.end(1));
        rules(x, "give 5 when 1=1;");
        due("RULES of another object", new NewValley().look(4), 0);
    }

    private static void callsAreAnsweredUpToThe512th() {
        about("An object is used for at most 512 calls");
        NewValley x = withHouseholds(8);
        for (int s = 0; s < 8; s++) {
            x.site(s, 0);
            x.field(100 + s);
        }
        rules(x, "give 104 when papers=1;");
        int calls = 8 + 16 + 4;
        int ties = 0;
        while (calls + 4 <= 509) {
            ties = (ties + 1) % 10;
            yes("tie", x.tie(2, 5, ties));
            due("BOND", x.best(0), 9 * ties);
            yes("water", x.water(calls % 36, ties));
            due("drowned", x.drowned(3), 36);
            calls += 4;
        }
        while (calls < 509) {
            due("LAND", x.of(7, 2), 0);
            calls++;
        }
        due("call 510", x.part(0), 6);
        due("call 511", x.months(12), 12);
        due("call 512", x.best(0), 9 * ties);
        isWithinCalls(calls + 3);
    }

    private static void monthIs0AtFirst() {
        about("MONTHS 0 .. 35 (0 now, at first)");
        NewValley x = new NewValley();
        due("MONTH", x.look(0), 0);
        yes("water now", x.water(0, 50));
        yes("builders now", x.builders(0, 1));
    }

    private static void monthsAre0To35() {
        about("MONTHS 0 .. 35: The LEVEL in a MONTH");
        NewValley x = new NewValley();
        for (int month : outside(0, 35)) {
            no("water in MONTH " + month, x.water(month, 99));
        }
        due("drowned", x.drowned(0), 36);
        for (int month = 35; month >= 0; month--) {
            yes("water in MONTH " + month, x.water(month, 99));
            due("drowned", x.drowned(0), month);
        }
    }

    private static void levelsAre0To99() {
        about("WATER stands at a LEVEL (0 .. 99)");
        NewValley x = new NewValley();
        for (int level : outside(0, 99)) {
            no("LEVEL " + level, x.water(4, level));
        }
        for (int level = 0; level <= 99; level++) {
            yes("LEVEL " + level, x.water(4, level));
            x.village(0, level);
            due("LEVEL " + level + " at HEIGHT " + level, x.drowned(0), level == 0 ? 0 : 4);
        }
    }

    private static void levelIs0AtFirst() {
        about("in each MONTH (at first 0)");
        NewValley x = new NewValley();
        x.village(0, 1);
        x.village(1, 0);
        due("HEIGHT 1", x.drowned(0), 36);
        due("HEIGHT 0", x.drowned(1), 0);
        x.water(35, 1);
        due("HEIGHT 1 at LEVEL 1 in MONTH 35", x.drowned(0), 35);
    }

    private static void waterIsNowOrLater() {
        about("Promise 2: in a MONTH (now or later)");
        NewValley x = new NewValley();
        for (int now = 1; now <= 35; now++) {
            x.months(1);
            no("water in the MONTH ahead of " + now, x.water(now - 1, 99));
            no("water in MONTH 0 as it is " + now, x.water(0, 99));
            yes("water now, in " + now, x.water(now, 10));
            yes("water in MONTH 35 as it is " + now, x.water(35, 10));
        }
        due("no refused one came", x.drowned(0), 36);
    }

    private static void refusedWaterDoesNothing() {
        about("Promise 2: false, and nothing is done, if one can't be");
        NewValley x = busyValley();
        String before = picture(x);
        for (int month : outside(2, 35)) {
            no("MONTH " + month, x.water(month, 99));
        }
        for (int level : outside(0, 99)) {
            no("LEVEL " + level, x.water(5, level));
            no("LEVEL " + level, x.water(35, level));
        }
        no("both", x.water(36, 100));
        isUnchanged(before, x);
        x.village(0, 60);
        due("the LEVEL in MONTH 5 is 60 at least", x.drowned(0), 5);
        x.village(0, 61);
        due("the LEVEL in MONTH 5 is 60 at most", x.drowned(0), 9);
        x.village(0, 81);
        due("no other LEVEL is above 80", x.drowned(0), 36);
    }

    private static void villagesAre0To3() {
        about("VILLAGES 0 .. 3");
        NewValley x = new NewValley();
        x.water(0, 10);
        for (int v : outside(0, 3)) {
            no("VILLAGE " + v, x.village(v, 10));
        }
        for (int v = 0; v <= 3; v++) {
            due("not yet drowned", x.drowned(v), 36);
            yes("VILLAGE " + v, x.village(v, 10));
            due("drowned", x.drowned(v), 0);
        }
    }

    private static void heightsAre0To99() {
        about("have a HEIGHT (0 .. 99");
        NewValley x = new NewValley();
        for (int height : outside(0, 99)) {
            no("HEIGHT " + height, x.village(2, height));
        }
        x.water(3, 99);
        for (int height = 0; height <= 99; height++) {
            yes("HEIGHT " + height, x.village(2, height));
            due("HEIGHT " + height, x.drowned(2), height == 0 ? 0 : 3);
        }
    }

    private static void heightIs50AtFirst() {
        about("a HEIGHT (0 .. 99; 50 at first)");
        NewValley x = new NewValley();
        x.water(6, 49);
        for (int v = 0; v <= 3; v++) {
            due("LEVEL 49", x.drowned(v), 36);
        }
        x.water(7, 50);
        for (int v = 0; v <= 3; v++) {
            due("LEVEL 50", x.drowned(v), 7);
        }
    }

    private static void refusedVillageDoesNothing() {
        about("Promise 3: false, and nothing is done, if one can't be");
        NewValley x = busyValley();
        x.water(20, 99);
        String before = picture(x);
        for (int v : outside(0, 3)) {
            no("VILLAGE " + v, x.village(v, 1));
        }
        for (int height : outside(0, 99)) {
            for (int v = 0; v <= 3; v++) {
                no("HEIGHT " + height, x.village(v, height));
            }
        }
        no("both", x.village(4, 100));
        isUnchanged(before, x);
        x.water(2, 39);
        due("HEIGHT of 1 is 40 at least", x.drowned(1), 5);
        x.water(2, 40);
        due("HEIGHT of 1 is 40 at most", x.drowned(1), 2);
    }

    private static void drownedAtItsHeight() {
        about("in which the LEVEL is its HEIGHT or above");
        NewValley x = new NewValley();
        x.water(8, 70);
        x.village(0, 71);
        x.village(1, 70);
        x.village(2, 69);
        due("the LEVEL is one below", x.drowned(0), 36);
        due("the LEVEL is its HEIGHT", x.drowned(1), 8);
        due("the LEVEL is one above", x.drowned(2), 8);
    }

    private static void drownedInTheFirstMonth() {
        about("DROWNED in the first MONTH, of all");
        NewValley x = new NewValley();
        x.water(10, 50);
        x.water(20, 99);
        x.water(15, 80);
        due("the first, not the highest or the last", x.drowned(0), 10);
        x.village(0, 51);
        due("of those that are high enough", x.drowned(0), 15);
        x.water(11, 0);
        due("it falls behind it", x.drowned(1), 10);
        x.water(10, 49);
        due("it does not come there any more", x.drowned(1), 15);
        x.water(0, 50);
        due("MONTH 0 counts", x.drowned(1), 0);
    }

    private static void drownedInAMonthGoneBy() {
        about("DROWNED in the first MONTH, of all: those gone by are among them");
        NewValley x = new NewValley();
        x.water(3, 60);
        x.water(30, 70);
        x.months(12);
        due("it was", x.drowned(0), 3);
        x.village(0, 61);
        due("it is higher now", x.drowned(0), 30);
        x.village(0, 60);
        due("it is lower again", x.drowned(0), 3);
        x.village(0, 0);
        due("HEIGHT 0", x.drowned(0), 0);
    }

    private static void drownedNever() {
        about("(never: MONTH 36)");
        NewValley x = new NewValley();
        x.village(0, 99);
        for (int month = 0; month < 36; month++) {
            x.water(month, 98);
        }
        due("LEVEL 98 at HEIGHT 99 in all MONTHS", x.drowned(0), 36);
        x.water(35, 99);
        due("LEVEL 99 in the last", x.drowned(0), 35);
        x.water(35, 0);
        due("LEVEL 0 in the last", x.drowned(0), 36);
    }

    private static void drownedOfNoVillage() {
        about("Promise 4: NONE if there is none such");
        NewValley x = new NewValley();
        x.water(0, 99);
        for (int v : outside(0, 3)) {
            due("VILLAGE " + v, x.drowned(v), -1);
        }
        due("VILLAGE 0", x.drowned(0), 0);
        due("VILLAGE 3", x.drowned(3), 0);
    }

    private static void householdsAreNumberedAsTheyCome() {
        about("HOUSEHOLDS 0 .. 7, numbered as they come");
        NewValley x = new NewValley();
        for (int h = 0; h < 8; h++) {
            due("of no HOUSEHOLD yet", x.of(h, 1), -1);
            due("its number", x.household(h % 4, 20 - h, 99 - h, h, h % 2 == 0), h);
            due("HOUSEHOLDS", x.look(1), h + 1);
        }
        due("there are 8", x.household(0, 1, 1, 1, true), -1);
        for (int h = 0; h < 8; h++) {
            int[] want = {h % 4, 20 - h, 99 - h, h, (h + 1) % 2};
            for (int what = 0; what < 5; what++) {
                due("of(" + h + ", " + what + ")", x.of(h, what), want[what]);
            }
        }
        due("of(8, 0)", x.of(8, 0), -1);
    }

    private static void householdOfAVillage() {
        about("HOUSEHOLDS: of a VILLAGE");
        NewValley x = new NewValley();
        for (int v : outside(0, 3)) {
            due("VILLAGE " + v, x.household(v, 1, 0, 0, true), -1);
        }
        for (int v = 0; v <= 3; v++) {
            due("VILLAGE " + v, x.household(v, 1, 0, 0, true), v);
            due("its VILLAGE", x.of(v, 0), v);
        }
    }

    private static void peopleAre1To20() {
        about("HOUSEHOLDS: PEOPLE (1 .. 20)");
        NewValley x = new NewValley();
        for (int people : outside(1, 20)) {
            due("PEOPLE " + people, x.household(0, people, 0, 0, true), -1);
        }
        due("PEOPLE 1", x.household(0, 1, 0, 0, true), 0);
        due("PEOPLE 20", x.household(0, 20, 0, 0, true), 1);
        due("of the first", x.of(0, 1), 1);
        due("of the second", x.of(1, 1), 20);
    }

    private static void landIs0To99() {
        about("HOUSEHOLDS: LAND (0 .. 99)");
        NewValley x = new NewValley();
        for (int land : outside(0, 99)) {
            due("LAND " + land, x.household(0, 1, land, 0, true), -1);
        }
        due("LAND 0", x.household(0, 1, 0, 5, true), 0);
        due("LAND 99", x.household(0, 1, 99, 5, true), 1);
        due("of the first", x.of(0, 2), 0);
        due("of the second", x.of(1, 2), 99);
    }

    private static void treesAre0To99() {
        about("HOUSEHOLDS: TREES (0 .. 99)");
        NewValley x = new NewValley();
        for (int trees : outside(0, 99)) {
            due("TREES " + trees, x.household(0, 1, 0, trees, true), -1);
        }
        due("TREES 0", x.household(0, 1, 5, 0, true), 0);
        due("TREES 99", x.household(0, 1, 5, 99, true), 1);
        due("of the first", x.of(0, 3), 0);
        due("of the second", x.of(1, 3), 99);
    }

    private static void withPapersOrWithout() {
        about("HOUSEHOLDS: with PAPERS or without");
        NewValley x = new NewValley();
        x.household(0, 1, 0, 0, false);
        x.household(0, 1, 0, 0, true);
        due("without", x.of(0, 4), 0);
        due("with", x.of(1, 4), 1);
    }

    private static void refusedHouseholdDoesNothing() {
        about("Promise 5: NONE, and nothing is done, if one can't be");
        NewValley x = busyValley();
        String before = picture(x);
        int[][] cannot = {{-1, 1, 0, 0}, {4, 1, 0, 0}, {0, 0, 0, 0}, {0, 21, 0, 0}, {0, 1, -1, 0}, {0, 1, 100, 0},
            {0, 1, 0, -1}, {0, 1, 0, 100}, {4, 21, 100, 100}, {LEAST, LEAST, LEAST, LEAST}, {MOST, MOST, MOST, MOST}};
        for (int[] it : cannot) {
            due("household", x.household(it[0], it[1], it[2], it[3], true), -1);
            due("household", x.household(it[0], it[1], it[2], it[3], false), -1);
        }
        isUnchanged(before, x);
        due("the next has the next number", x.household(3, 5, 6, 7, false), 4);
        int[] want = {3, 5, 6, 7, 0};
        for (int what = 0; what < 5; what++) {
            due("of(4, " + what + ")", x.of(4, what), want[what]);
        }
    }

    private static void ninthHouseholdDoesNothing() {
        about("Promise 5: NONE, and nothing is done, if .. there are 8");
        NewValley x = busyValley();
        for (int h = 4; h < 8; h++) {
            due("its number", x.household(h - 4, h, h, h, false), h);
        }
        String before = picture(x);
        due("the ninth", x.household(2, 20, 99, 99, true), -1);
        due("the ninth again", x.household(0, 1, 0, 0, false), -1);
        isUnchanged(before, x);
    }

    private static void papersOfNoHousehold() {
        about("Promise 6: false if there is none such");
        NewValley x = new NewValley();
        no("nobody is there", x.papers(0));
        x.household(0, 1, 0, 0, false);
        for (int h : outside(0, 0)) {
            no("HOUSEHOLD " + h, x.papers(h));
        }
        due("nobody got them", x.of(0, 4), 0);
        x.household(0, 1, 0, 0, false);
        due("who comes later did not get them", x.of(1, 4), 0);
        for (int h = 2; h < 8; h++) {
            no("HOUSEHOLD " + h, x.papers(h));
            x.household(0, 1, 0, 0, false);
            yes("HOUSEHOLD " + h + " is there now", x.papers(h));
        }
        no("HOUSEHOLD 8", x.papers(8));
        due("HOUSEHOLD 0 has none yet", x.of(0, 4), 0);
    }

    private static void papersThatItHas() {
        about("Promise 6: HOUSEHOLD h gets PAPERS: true; false .. or it has them");
        NewValley x = new NewValley();
        x.household(0, 1, 0, 0, true);
        x.household(0, 1, 0, 0, false);
        no("it came with them", x.papers(0));
        due("it has them still", x.of(0, 4), 1);
        due("the other has none", x.of(1, 4), 0);
        yes("it gets them", x.papers(1));
        due("it has them", x.of(1, 4), 1);
        no("it has them now", x.papers(1));
        due("it has them still", x.of(1, 4), 1);
    }
}
