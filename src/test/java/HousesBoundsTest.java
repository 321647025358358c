/** Part 5 of the document's terms, and promises 10, 15, 16 and 19: each sentence that names a bound. */
public final class HousesBoundsTest extends Checks {
    public static void main(String[] args) {
        builtAre0To8();
        builtIs1AtFirst();
        builtInMonths0To35();
        buildersNowOrLater();
        refusedBuildersDoNothing();
        builtFromNowOn();
        builtForThoseWhoHaveNone();
        builtInTheOrderOfMonths();
        builtThenInTheOrderOfNumbers();
        readyAtTheEndOfItsMonth();
        lateByTheEndOfTheMonthAhead();
        lateIfDrownedInMonth0();
        lateIfDrownedInAMonthGoneBy();
        lateInTheLastMonth();
        neverLateInMonth36();
        notWithinAllMonths();
        lookOfHousesThatAreReady();
        lookOfThoseWhoAreLate();
        lookOfAnotherWhat();
        ofNoHousehold();
        ofAnotherWhat();
        monthsAre1To12();
        monthsUpTo35();
        refusedMonthsDoNothing();
        monthsAtOnceAreMonthsOneByOne();
        houseOfTheLastMonth();
        Checks.finish();
    }

    /** One HOUSEHOLD of each VILLAGE, these DROWNED in the given MONTHS (36: never). */
    private static NewValley drownedIn(int... months) {
        NewValley x = new NewValley();
        for (int v = 0; v < months.length; v++) {
            x.village(v, 99);
            x.household(v, 1, 0, 0, true);
        }
        for (int m = 0; m < 36; m++) {
            x.water(m, 0);
        }
        for (int v = 0; v < months.length; v++) {
            int above = 0;
            for (int other : months) {
                above += other < months[v] ? 1 : 0;
            }
            x.village(v, 40 + above);
            if (months[v] < 36) {
                x.water(months[v], 40 + above);
            }
        }
        for (int v = 0; v < months.length; v++) {
            due("drowned", x.drowned(v), months[v]);
        }
        return x;
    }

    private static void areBuilt(NewValley x, int... months) {
        for (int h = 0; h < months.length; h++) {
            due("the MONTH of the house of " + h, x.of(h, 7), months[h]);
        }
    }

    private static void areLate(NewValley x, int... late) {
        int count = 0;
        for (int h = 0; h < late.length; h++) {
            due("HOUSEHOLD " + h + " LATE", x.of(h, 8), late[h]);
            count += late[h];
        }
        due("how many are LATE", x.look(6), count);
    }

    private static void builtAre0To8() {
        about("BUILT are so many houses in each MONTH (0 .. 8");
        for (int n = 0; n <= 8; n++) {
            NewValley x = withHouseholds(8);
            yes("builders(0, " + n + ")", x.builders(0, n));
            yes("builders(1, 8)", x.builders(1, 8));
            for (int h = 0; h < 8; h++) {
                due(n + " houses: that of " + h, x.of(h, 7), h < n ? 0 : 1);
            }
        }
        NewValley x = withHouseholds(8);
        for (int n : outside(0, 8)) {
            no("builders(0, " + n + ")", x.builders(0, n));
        }
        due("one as at first", x.of(1, 7), 1);
    }

    private static void builtIs1AtFirst() {
        about("houses in each MONTH (0 .. 8; 1 at first)");
        areBuilt(withHouseholds(8), 0, 1, 2, 3, 4, 5, 6, 7);
        NewValley x = withHouseholds(8);
        x.months(12);
        x.months(12);
        x.months(6);
        x.household(0, 1, 0, 0, true);
        areBuilt(x, 0, 1, 2, 3, 4, 5, 6, 7);
        NewValley y = new NewValley();
        for (int month = 0; month < 36; month++) {
            if (month % 5 == 4) {
                y.household(0, 1, 0, 0, true);
                due("in MONTH " + month, y.of(month / 5, 7), month);
            }
            y.months(1);
        }
    }

    private static void builtInMonths0To35() {
        about("Promise 10: So many houses can be built in a MONTH (0 .. 35)");
        NewValley x = withHouseholds(1);
        for (int month : outside(0, 35)) {
            no("MONTH " + month, x.builders(month, 0));
            no("MONTH " + month, x.builders(month, 8));
        }
        for (int month = 0; month <= 35; month++) {
            due("the first MONTH with builders", x.of(0, 7), month);
            yes("MONTH " + month, x.builders(month, 0));
        }
        due("none", x.of(0, 7), -1);
        yes("MONTH 35", x.builders(35, 1));
        due("in MONTH 35", x.of(0, 7), 35);
    }

    private static void buildersNowOrLater() {
        about("Promise 10: in a MONTH (now or later)");
        NewValley x = new NewValley();
        for (int now = 1; now <= 35; now++) {
            x.months(1);
            no("the MONTH ahead of " + now, x.builders(now - 1, 3));
            no("MONTH 0 as it is " + now, x.builders(0, 3));
            yes("now, in " + now, x.builders(now, 3));
            yes("MONTH 35 as it is " + now, x.builders(35, 3));
        }
    }

    private static void refusedBuildersDoNothing() {
        about("Promise 10: false, and nothing is done, if one can't be");
        NewValley x = busyValley();
        String before = picture(x);
        for (int month : outside(2, 35)) {
            no("MONTH " + month, x.builders(month, 8));
            no("MONTH " + month, x.builders(month, 0));
        }
        for (int n : outside(0, 8)) {
            no("houses " + n, x.builders(2, n));
            no("houses " + n, x.builders(3, n));
        }
        isUnchanged(before, x);
        NewValley y = withHouseholds(8);
        y.builders(0, 0);
        y.builders(1, 2);
        y.builders(35, 9);
        y.builders(36, 8);
        y.builders(-1, 8);
        y.builders(0, 9);
        y.builders(1, -1);
        areBuilt(y, 1, 1, 2, 3, 4, 5, 6, 7);
    }

    private static void builtFromNowOn() {
        about("BUILT .. from now on");
        NewValley x = new NewValley();
        x.builders(0, 8);
        x.months(3);
        x.household(0, 1, 0, 0, true);
        x.household(0, 1, 0, 0, true);
        areBuilt(x, 3, 4);
        due("what was not built is not kept", x.look(5), 0);
        x.months(1);
        due("one is built now", x.look(5), 1);
        x.household(0, 1, 0, 0, true);
        areBuilt(x, 3, 4, 5);
    }

    private static void builtForThoseWhoHaveNone() {
        about("for HOUSEHOLDS that have none yet");
        NewValley x = drownedIn(9, 5);
        areBuilt(x, 1, 0);
        x.months(1);
        areBuilt(x, 1, 0);
        x.water(2, 98);
        areBuilt(x, 1, 0);
        due("houses", x.look(5), 1);
        x.village(1, 99);
        areBuilt(x, 1, 0);
        x.months(12);
        due("one for each", x.look(5), 2);
        areBuilt(x, 1, 0);
    }

    private static void builtInTheOrderOfMonths() {
        about("in the order of the MONTHS in which their VILLAGES are DROWNED");
        areBuilt(drownedIn(9, 5, 36, 0), 2, 1, 3, 0);
        areBuilt(drownedIn(36, 35, 34, 33), 3, 2, 1, 0);
        areBuilt(drownedIn(1, 2, 3, 36), 0, 1, 2, 3);
        NewValley x = drownedIn(9, 5, 36, 12);
        areBuilt(x, 1, 0, 3, 2);
        x.village(2, 0);
        areBuilt(x, 2, 1, 0, 3);
        x.village(2, 99);
        x.months(1);
        x.village(2, 0);
        areBuilt(x, 2, 0, 1, 3);
    }

    private static void builtThenInTheOrderOfNumbers() {
        about("then of numbers");
        areBuilt(withHouseholds(8), 0, 1, 2, 3, 4, 5, 6, 7);
        areBuilt(drownedIn(7, 7, 7, 7), 0, 1, 2, 3);
        areBuilt(drownedIn(7, 3, 7, 3), 2, 0, 3, 1);
        areBuilt(drownedIn(36, 7, 36, 7), 2, 0, 3, 1);
        NewValley x = new NewValley();
        x.water(4, 50);
        x.village(1, 99);
        for (int h = 0; h < 8; h++) {
            x.household((h + 1) % 2, 1, 0, 0, true);
        }
        areBuilt(x, 4, 0, 5, 1, 6, 2, 7, 3);
    }

    private static void readyAtTheEndOfItsMonth() {
        about("a house is ready at the end of its MONTH; As a MONTH goes by, houses are built so");
        NewValley x = withHouseholds(8);
        x.builders(1, 3);
        x.builders(2, 0);
        x.builders(3, 8);
        int[] ready = {0, 1, 4, 4, 8, 8};
        for (int month = 0; month < ready.length; month++) {
            due("houses that are ready in MONTH " + month, x.look(5), ready[month]);
            due("MONTH", x.months(1), month + 1);
        }
        areBuilt(x, 0, 1, 1, 1, 3, 3, 3, 3);
    }

    private static void lateByTheEndOfTheMonthAhead() {
        about("LATE .. not ready by the end of the MONTH ahead of that in which its VILLAGE is DROWNED");
        for (int built = 0; built < 36; built++) {
            NewValley x = withHouseholds(1);
            for (int m = 0; m < built; m++) {
                x.builders(m, 0);
            }
            due("built in", x.of(0, 7), built);
            if (built < 35) {
                x.water(built + 1, 50);
                areLate(x, 0);
            }
            x.water(built, 50);
            areLate(x, 1);
        }
        areLate(drownedIn(1, 1, 36, 3), 0, 1, 0, 0);
        areLate(drownedIn(1, 2, 3, 4), 0, 0, 0, 0);
        areLate(drownedIn(1, 2, 3, 3), 0, 0, 0, 1);
    }

    private static void lateIfDrownedInMonth0() {
        about("LATE: there is no MONTH ahead of 0");
        NewValley x = drownedIn(0, 36);
        x.builders(0, 8);
        areBuilt(x, 0, 0);
        areLate(x, 1, 0);
        x.months(1);
        areLate(x, 1, 0);
    }

    private static void lateIfDrownedInAMonthGoneBy() {
        about("8 1 if it is (would be) LATE: with its house ready too");
        NewValley x = drownedIn(36, 36);
        x.builders(0, 0);
        x.builders(1, 0);
        x.months(5);
        due("both are ready", x.look(5), 2);
        areBuilt(x, 2, 3);
        areLate(x, 0, 0);
        x.village(0, 0);
        areLate(x, 1, 0);
        x.village(0, 50);
        x.village(1, 50);
        x.water(5, 60);
        areLate(x, 0, 0);
        x.household(1, 1, 0, 0, true);
        areBuilt(x, 2, 3, 5);
        areLate(x, 0, 0, 1);
    }

    private static void lateInTheLastMonth() {
        about("LATE: DROWNED in MONTH 35");
        NewValley x = withHouseholds(2);
        for (int m = 0; m < 34; m++) {
            x.builders(m, 0);
        }
        x.water(35, 50);
        areBuilt(x, 34, 35);
        areLate(x, 0, 1);
        x.builders(34, 0);
        x.builders(35, 0);
        areBuilt(x, -1, -1);
        areLate(x, 1, 1);
    }

    private static void neverLateInMonth36() {
        about("(in MONTH 36: never late)");
        NewValley x = withHouseholds(8);
        areLate(x, 0, 0, 0, 0, 0, 0, 0, 0);
        for (int m = 0; m < 36; m++) {
            x.builders(m, 0);
        }
        areBuilt(x, -1, -1, -1, -1, -1, -1, -1, -1);
        areLate(x, 0, 0, 0, 0, 0, 0, 0, 0);
        x.months(12);
        x.months(12);
        x.months(11);
        areLate(x, 0, 0, 0, 0, 0, 0, 0, 0);
    }

    private static void notWithinAllMonths() {
        about("Promise 16: 7 .. (NONE: not within all MONTHS)");
        NewValley x = withHouseholds(3);
        x.months(12);
        x.months(12);
        x.months(9);
        areBuilt(x, 0, 1, 2);
        for (int h = 3; h < 7; h++) {
            x.household(0, 1, 0, 0, true);
        }
        areBuilt(x, 0, 1, 2, 33, 34, 35, -1);
        x.builders(34, 2);
        areBuilt(x, 0, 1, 2, 33, 34, 34, 35);
        x.builders(33, 0);
        x.builders(34, 0);
        areBuilt(x, 0, 1, 2, 35, -1, -1, -1);
        x.builders(35, 0);
        areBuilt(x, 0, 1, 2, -1, -1, -1, -1);
        x.builders(35, 4);
        areBuilt(x, 0, 1, 2, 35, 35, 35, 35);
    }

    private static void lookOfHousesThatAreReady() {
        about("Promise 15: 5 houses that are ready");
        NewValley x = new NewValley();
        due("nobody", x.look(5), 0);
        x.months(1);
        due("houses for nobody are not built", x.look(5), 0);
        x.builders(1, 8);
        for (int h = 0; h < 8; h++) {
            x.household(0, 1, 0, 0, true);
        }
        due("they will be built", x.look(5), 0);
        x.months(1);
        due("all of them", x.look(5), 8);
        x.builders(2, 8);
        x.months(12);
        due("no more than HOUSEHOLDS", x.look(5), 8);
    }

    private static void lookOfThoseWhoAreLate() {
        about("Promise 15: 6 HOUSEHOLDS that would be LATE (or are)");
        NewValley x = withHouseholds(8);
        due("never drowned", x.look(6), 0);
        x.water(5, 50);
        due("would be", x.look(6), 3);
        x.builders(4, 4);
        due("would not be any more", x.look(6), 0);
        x.builders(4, 3);
        due("one would be", x.look(6), 1);
        x.months(5);
        due("one will be", x.look(6), 1);
        x.months(5);
        due("one is", x.look(6), 1);
        due("all are ready", x.look(5), 8);
        x.village(0, 0);
        due("all are", x.look(6), 8);
    }

    private static void lookOfAnotherWhat() {
        about("Promise 15: NONE for another what");
        NewValley x = busyValley();
        int[] want = {2, 4, 5, 5, 2};
        for (int what = 0; what < want.length; what++) {
            due("look(" + what + ")", x.look(what), want[what]);
        }
        for (int what : outside(0, 6)) {
            due("look(" + what + ")", x.look(what), -1);
        }
    }

    private static void ofNoHousehold() {
        about("Promise 16: NONE if there is none such");
        NewValley x = new NewValley();
        for (int h = 0; h < 8; h++) {
            for (int what = 0; what < 9; what++) {
                due("not yet there", x.of(h, what), -1);
            }
            x.household(3, 2, 0, 0, false);
            due("there", x.of(h, 0), 3);
            due("there", x.of(h, 1), 2);
        }
        for (int h : outside(0, 7)) {
            for (int what = 0; what < 9; what++) {
                due("of(" + h + ", " + what + ")", x.of(h, what), -1);
            }
        }
    }

    private static void ofAnotherWhat() {
        about("Promise 16: NONE .. or another what");
        NewValley x = new NewValley();
        x.household(2, 3, 4, 5, true);
        rules(x, "give 7 when papers > 0;");
        x.village(2, 0);
        int[] want = {2, 3, 4, 5, 1, 7, 0, 0, 1};
        for (int what = 0; what < 9; what++) {
            due("of(0, " + what + ")", x.of(0, what), want[what]);
        }
        for (int what : outside(0, 8)) {
            due("of(0, " + what + ")", x.of(0, what), -1);
            due("of(1, " + what + ")", x.of(1, what), -1);
        }
    }

    private static void monthsAre1To12() {
        about("Promise 19: So many MONTHS (1 .. 12) go by: the MONTH");
        for (int n = 1; n <= 12; n++) {
            NewValley x = new NewValley();
            due("months(" + n + ")", x.months(n), n);
            due("MONTH", x.look(0), n);
        }
        NewValley x = new NewValley();
        for (int n : outside(1, 12)) {
            due("months(" + n + ")", x.months(n), -1);
        }
        due("months(-12)", x.months(-12), -1);
        due("MONTH", x.look(0), 0);
    }

    private static void monthsUpTo35() {
        about("Promise 19: NONE .. it would be beyond 35");
        for (int now = 23; now <= 35; now++) {
            NewValley x = new NewValley();
            for (int m = 1; m <= now; m++) {
                due("MONTH", x.months(1), m);
            }
            for (int n = 12; now + n > 35 && n > 0; n--) {
                due("months(" + n + ") in " + now, x.months(n), -1);
                due("MONTH", x.look(0), now);
            }
            if (now < 35) {
                due("up to 35", x.months(35 - now), 35);
            }
            due("beyond 35", x.months(1), -1);
        }
    }

    private static void refusedMonthsDoNothing() {
        about("Promise 19: NONE, and nothing is done, if that can't be, or it would be beyond 35");
        NewValley x = busyValley();
        String before = picture(x);
        for (int n : outside(1, 12)) {
            due("months(" + n + ")", x.months(n), -1);
        }
        isUnchanged(before, x);
        yes("MONTH 2 is still now", x.water(2, 0));
        NewValley y = withHouseholds(1);
        for (int m = 0; m < 34; m++) {
            y.builders(m, 0);
        }
        y.months(12);
        y.months(12);
        y.months(10);
        String at34 = picture(y);
        due("months(2)", y.months(2), -1);
        due("months(12)", y.months(12), -1);
        isUnchanged(at34, y);
        due("no house was built", y.look(5), 0);
        due("months(1)", y.months(1), 35);
        due("it is ready", y.look(5), 1);
    }

    private static void monthsAtOnceAreMonthsOneByOne() {
        about("As a MONTH goes by, houses are built so: several at once as one by one");
        NewValley once = drownedIn(9, 5, 36, 2);
        NewValley slowly = drownedIn(9, 5, 36, 2);
        for (NewValley x : new NewValley[] {once, slowly}) {
            x.builders(1, 0);
            x.builders(2, 2);
        }
        due("MONTH", once.months(4), 4);
        for (int m = 1; m <= 4; m++) {
            due("MONTH", slowly.months(1), m);
        }
        areBuilt(once, 2, 2, 3, 0);
        isUnchanged(picture(once), slowly);
    }

    private static void houseOfTheLastMonth() {
        about("a house is ready at the end of its MONTH: of 35 that does not come");
        NewValley x = withHouseholds(2);
        for (int m = 0; m < 35; m++) {
            x.builders(m, 0);
        }
        x.builders(35, 2);
        x.months(12);
        x.months(12);
        x.months(11);
        areBuilt(x, 35, 35);
        due("houses that are ready", x.look(5), 0);
        due("beyond 35", x.months(1), -1);
        due("houses that are ready", x.look(5), 0);
        areLate(x, 0, 0);
        x.water(35, 50);
        areLate(x, 1, 1);
        x.builders(35, 1);
        areBuilt(x, 35, -1);
    }
}
