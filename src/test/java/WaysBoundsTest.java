/** Part 3 of the document's terms, and promises 7, 8 and 17: each sentence that names a bound. */
public final class WaysBoundsTest extends Checks {
    public static void main(String[] args) {
        sitesAreNumberedAsTheyCome();
        sitesAreAt0To20();
        refusedSiteDoesNothing();
        ninthSiteDoesNothing();
        tiesAre0To9();
        tiesAre0AtFirst();
        tiesAreBetweenTwo();
        tiesOfNoHousehold();
        tiesOfTheSame();
        refusedTieDoesNothing();
        nearIs10Less();
        nearIs0AtLeast();
        nearIsOfBothWays();
        sitesMustBeAsManyAtLeast();
        eachHasASiteOfItsOwn();
        bondIsOverAllPairs();
        bestIsTheGreatest();
        bestIsTheFirstOfSeveral();
        bestOfHouseholds0Then1();
        bestWithoutHouseholds();
        bestOfNoHousehold();
        bestOfAnotherWhat();
        bestFollowsWhatChanges();
        Checks.finish();
    }

    private static NewValley withSites(int households, int[]... places) {
        NewValley x = withHouseholds(households);
        for (int[] at : places) {
            x.site(at[0], at[1]);
        }
        return x;
    }

    private static void isBest(NewValley x, int bond, int... sites) {
        due("BOND", x.best(0), bond);
        for (int h = 0; h < sites.length; h++) {
            due("SITE of " + h, x.best(10 + h), sites[h]);
        }
    }

    private static void sitesAreNumberedAsTheyCome() {
        about("SITES 0 .. 7, numbered as they come");
        NewValley x = new NewValley();
        for (int s = 0; s < 8; s++) {
            due("SITES", x.look(2), s);
            due("its number", x.site(s, 20 - s), s);
        }
        due("SITES", x.look(2), 8);
    }

    private static void sitesAreAt0To20() {
        about("at x, y (0 .. 20)");
        NewValley x = new NewValley();
        for (int at : outside(0, 20)) {
            due("x " + at, x.site(at, 0), -1);
            due("x " + at, x.site(at, 20), -1);
            due("y " + at, x.site(0, at), -1);
            due("y " + at, x.site(20, at), -1);
            due("both " + at, x.site(at, at), -1);
        }
        due("0, 0", x.site(0, 0), 0);
        due("20, 0", x.site(20, 0), 1);
        due("0, 20", x.site(0, 20), 2);
        due("20, 20", x.site(20, 20), 3);
    }

    private static void refusedSiteDoesNothing() {
        about("Promise 8: NONE, and nothing is done, if one can't be");
        NewValley x = busyValley();
        String before = picture(x);
        for (int at : outside(0, 20)) {
            due("x " + at, x.site(at, 3), -1);
            due("y " + at, x.site(3, at), -1);
        }
        isUnchanged(before, x);
        due("the next has the next number", x.site(3, 3), 5);
        NewValley y = withSites(2, new int[] {0, 0});
        y.tie(0, 1, 1);
        y.site(21, 0);
        due("there is no SITE more", y.best(0), -1);
        y.site(4, 0);
        due("the next is where it is", y.best(0), 6);
    }

    private static void ninthSiteDoesNothing() {
        about("Promise 8: NONE, and nothing is done, if .. there are 8");
        NewValley x = busyValley();
        for (int s = 5; s < 8; s++) {
            due("its number", x.site(20, s), s);
        }
        String before = picture(x);
        due("the ninth", x.site(0, 0), -1);
        due("the ninth again", x.site(10, 10), -1);
        isUnchanged(before, x);
        NewValley y = withSites(2);
        y.tie(0, 1, 1);
        for (int s = 0; s < 8; s++) {
            y.site(s % 2 * 20, s / 2 * 6);
        }
        isBest(y, 4, 0, 2);
        due("the ninth", y.site(0, 0), -1);
        isBest(y, 4, 0, 2);
    }

    private static void tiesAre0To9() {
        about("TIES between two HOUSEHOLDS: 0 .. 9");
        NewValley x = withSites(2, new int[] {0, 0}, new int[] {0, 0});
        for (int v = 0; v <= 9; v++) {
            yes("TIES " + v, x.tie(0, 1, v));
            due("BOND", x.best(0), 10 * v);
        }
        for (int v : outside(0, 9)) {
            no("TIES " + v, x.tie(0, 1, v));
            due("BOND", x.best(0), 90);
        }
        yes("TIES 0 again", x.tie(0, 1, 0));
        due("BOND", x.best(0), 0);
    }

    private static void tiesAre0AtFirst() {
        about("TIES .. (0 at first)");
        NewValley x = new NewValley();
        for (int h = 0; h < 8; h++) {
            x.household(0, 1, 0, 0, true);
            x.site(5, 5);
            due("BOND of " + (h + 1), x.best(0), 0);
        }
    }

    private static void tiesAreBetweenTwo() {
        about("TIES between two HOUSEHOLDS");
        NewValley x = withSites(3, new int[] {0, 0}, new int[] {0, 0}, new int[] {0, 0});
        yes("of 0 and 1", x.tie(0, 1, 9));
        due("BOND", x.best(0), 90);
        yes("of 1 and 0 is the same", x.tie(1, 0, 4));
        due("BOND", x.best(0), 40);
        yes("of 2 and 0 is another", x.tie(2, 0, 3));
        due("BOND", x.best(0), 70);
        yes("of 0 and 2 is the same", x.tie(0, 2, 0));
        due("BOND", x.best(0), 40);
    }

    private static void tiesOfNoHousehold() {
        about("Promise 7: false .. if one can't be: no such HOUSEHOLD");
        NewValley x = new NewValley();
        no("nobody is there", x.tie(0, 1, 5));
        for (int h = 0; h < 7; h++) {
            x.household(0, 1, 0, 0, true);
            no("who is not there yet", x.tie(h, h + 1, 5));
            no("who is not there yet", x.tie(h + 1, h, 5));
        }
        x.household(0, 1, 0, 0, true);
        yes("the last", x.tie(7, 6, 0));
        for (int h : outside(0, 7)) {
            no("HOUSEHOLD " + h, x.tie(0, h, 5));
            no("HOUSEHOLD " + h, x.tie(h, 0, 5));
            no("HOUSEHOLD " + h, x.tie(h, h, 5));
        }
        for (int s = 0; s < 8; s++) {
            x.site(0, 0);
        }
        due("none of these counts", x.best(0), 0);
    }

    private static void tiesOfTheSame() {
        about("Promise 7: false .. if one can't be (the same)");
        NewValley x = withHouseholds(8);
        for (int h = 0; h < 8; h++) {
            x.site(0, 0);
            no("HOUSEHOLD " + h, x.tie(h, h, 5));
            no("HOUSEHOLD " + h, x.tie(h, h, 0));
        }
        due("BOND", x.best(0), 0);
    }

    private static void refusedTieDoesNothing() {
        about("Promise 7: false, and nothing is done, if one can't be");
        NewValley x = busyValley();
        String before = picture(x);
        for (int v : outside(0, 9)) {
            no("TIES " + v, x.tie(0, 1, v));
            no("TIES " + v, x.tie(2, 3, v));
        }
        for (int h : outside(0, 3)) {
            no("HOUSEHOLD " + h, x.tie(h, 1, 1));
            no("HOUSEHOLD " + h, x.tie(1, h, 1));
        }
        no("the same", x.tie(1, 1, 9));
        isUnchanged(before, x);
        int bond = x.best(0);
        due("who comes later", x.household(0, 1, 0, 0, true), 4);
        due("has no TIES of a refused one", x.best(0), bond);
    }

    private static void nearIs10Less() {
        about("NEAR of two SITES: 10 less (|dx| + |dy|)");
        for (int away = 0; away <= 10; away++) {
            for (int dx = 0; dx <= away; dx++) {
                NewValley x = withSites(2, new int[] {5, 10}, new int[] {5 + dx, 10 - (away - dx)});
                x.tie(0, 1, 1);
                due("NEAR at " + dx + " and " + (away - dx), x.best(0), 10 - away);
            }
        }
    }

    private static void nearIs0AtLeast() {
        about("NEAR: 0 at least");
        for (int[] at : new int[][] {{9, 0}, {0, 9}, {10, 0}, {0, 10}, {5, 5}, {11, 0}, {5, 6}, {20, 0}, {20, 20}}) {
            NewValley x = withSites(2, new int[] {0, 0}, at);
            x.tie(0, 1, 9);
            due("BOND", x.best(0), at[0] + at[1] == 9 ? 9 : 0);
        }
        NewValley far = withSites(3, new int[] {0, 0}, new int[] {1, 0}, new int[] {20, 20});
        far.tie(0, 1, 1);
        far.tie(0, 2, 1);
        far.tie(1, 2, 1);
        isBest(far, 9, 0, 1, 2);
    }

    private static void nearIsOfBothWays() {
        about("NEAR: |dx| and |dy|");
        for (int[] at : new int[][] {{7, 12}, {13, 12}, {7, 8}, {13, 8}}) {
            NewValley x = withSites(2, new int[] {10, 10}, at);
            x.tie(0, 1, 1);
            due("NEAR", x.best(0), 5);
            NewValley y = withSites(2, at, new int[] {10, 10});
            y.tie(0, 1, 1);
            due("NEAR the other way", y.best(0), 5);
        }
    }

    private static void sitesMustBeAsManyAtLeast() {
        about("there must be as many SITES at least; Promise 17: NONE: there are not SITES enough");
        for (int households = 1; households <= 8; households++) {
            NewValley x = withHouseholds(households);
            for (int sites = 0; sites <= 8; sites++) {
                boolean enough = sites >= households;
                due("BOND of " + households + " at " + sites, x.best(0), enough ? 0 : -1);
                due("SITE of the first of " + households + " at " + sites, x.best(10), enough ? 0 : -1);
                due("SITE of the last of " + households + " at " + sites, x.best(9 + households),
                        enough ? households - 1 : -1);
                x.site(sites, sites);
            }
        }
    }

    private static void eachHasASiteOfItsOwn() {
        about("A WAY gives each HOUSEHOLD a SITE of its own");
        NewValley x = withSites(2, new int[] {0, 0}, new int[] {3, 0});
        x.tie(0, 1, 9);
        isBest(x, 63, 0, 1);
        x.site(0, 0);
        isBest(x, 90, 0, 2);
    }

    private static void bondIsOverAllPairs() {
        about("its BOND: the sum, over pairs of HOUSEHOLDS, of TIES times NEAR");
        NewValley x = withHouseholds(8);
        for (int s = 0; s < 8; s++) {
            x.site(20, 20);
        }
        int bond = 0;
        for (int a = 0; a < 8; a++) {
            for (int b = 0; b < a; b++) {
                yes("tie", x.tie(a, b, 9));
                bond += 90;
                due("BOND", x.best(0), bond);
            }
        }
        due("the greatest that can be", x.best(0), 2520);
    }

    private static void bestIsTheGreatest() {
        about("BEST: the greatest BOND");
        NewValley x = withSites(3, new int[] {0, 0}, new int[] {20, 20}, new int[] {0, 9}, new int[] {20, 19});
        x.tie(1, 2, 1);
        isBest(x, 9, 0, 1, 3);
        x.tie(0, 1, 9);
        isBest(x, 81, 1, 3, 0);
        x.tie(1, 2, 8);
        isBest(x, 81, 1, 3, 0);
        x.tie(0, 2, 1);
        isBest(x, 81, 1, 3, 0);
        NewValley line = withHouseholds(8);
        int[] order = {3, 0, 6, 2, 7, 5, 1, 4};
        for (int s = 0; s < 8; s++) {
            line.site(order[s] * 2, 0);
        }
        for (int h = 0; h < 7; h++) {
            line.tie(h, h + 1, 9);
        }
        isBest(line, 7 * 9 * 8, 1, 6, 3, 0, 7, 5, 2, 4);
    }

    private static void bestIsTheFirstOfSeveral() {
        about("BEST: of several the first by the SITES of HOUSEHOLDS 0, 1, .. (the lesser first)");
        NewValley x = withHouseholds(8);
        for (int s = 0; s < 8; s++) {
            x.site(3, 3);
        }
        isBest(x, 0, 0, 1, 2, 3, 4, 5, 6, 7);
        for (int a = 0; a < 8; a++) {
            for (int b = 0; b < a; b++) {
                x.tie(a, b, 9);
            }
        }
        isBest(x, 2520, 0, 1, 2, 3, 4, 5, 6, 7);
        NewValley pairs = withSites(2, new int[] {0, 0}, new int[] {10, 10}, new int[] {20, 0}, new int[] {20, 1},
                new int[] {11, 10});
        pairs.tie(0, 1, 1);
        isBest(pairs, 9, 1, 4);
    }

    private static void bestOfHouseholds0Then1() {
        about("the first by the SITES of HOUSEHOLDS 0, 1, ..: 0 ahead of 1, 1 ahead of 2");
        NewValley x = withSites(3, new int[] {0, 0}, new int[] {20, 0}, new int[] {20, 20}, new int[] {1, 0});
        x.tie(0, 2, 1);
        isBest(x, 9, 0, 1, 3);
        NewValley y = withSites(3, new int[] {0, 0}, new int[] {20, 0}, new int[] {20, 20}, new int[] {1, 0});
        y.tie(1, 2, 1);
        isBest(y, 9, 1, 0, 3);
        NewValley more = withSites(2, new int[] {5, 5}, new int[] {5, 6}, new int[] {5, 4}, new int[] {4, 5});
        more.tie(0, 1, 2);
        isBest(more, 18, 0, 1);
        NewValley free = withSites(2, new int[] {0, 0}, new int[] {0, 0}, new int[] {0, 0}, new int[] {0, 0});
        isBest(free, 0, 0, 1);
    }

    private static void bestWithoutHouseholds() {
        about("Promise 17: (Without HOUSEHOLDS: BOND 0.)");
        NewValley x = new NewValley();
        due("no SITES", x.best(0), 0);
        due("of nobody", x.best(10), -1);
        for (int s = 0; s < 8; s++) {
            x.site(s, s);
            due("SITES", x.best(0), 0);
            due("of nobody", x.best(10), -1);
        }
    }

    private static void bestOfNoHousehold() {
        about("Promise 17: NONE: .. no such HOUSEHOLD");
        NewValley x = new NewValley();
        for (int s = 0; s < 8; s++) {
            x.site(s, s);
        }
        for (int h = 0; h < 8; h++) {
            due("not yet there", x.best(10 + h), -1);
            x.household(0, 1, 0, 0, true);
            due("there", x.best(10 + h), h);
        }
        due("HOUSEHOLD 8", x.best(18), -1);
        due("HOUSEHOLD -1", x.best(9), -1);
    }

    private static void bestOfAnotherWhat() {
        about("Promise 17: NONE: .. or another what");
        NewValley x = withSites(8);
        for (int s = 0; s < 8; s++) {
            x.site(s, s);
        }
        for (int what = 1; what < 10; what++) {
            due("best(" + what + ")", x.best(what), -1);
        }
        for (int what : outside(0, 17)) {
            due("best(" + what + ")", x.best(what), -1);
        }
        for (int what : new int[] {LEAST + 9, LEAST + 10, MOST - 7, MOST - 10, -10, -17, -8}) {
            due("best(" + what + ")", x.best(what), -1);
        }
        due("best(0)", x.best(0), 0);
    }

    private static void bestFollowsWhatChanges() {
        about("Promise 17: BEST of the WAYS, as they are now");
        NewValley x = withSites(2, new int[] {0, 0}, new int[] {5, 0});
        isBest(x, 0, 0, 1);
        x.tie(0, 1, 2);
        isBest(x, 10, 0, 1);
        x.site(1, 0);
        isBest(x, 18, 0, 2);
        x.tie(0, 1, 0);
        isBest(x, 0, 0, 1);
        x.household(0, 1, 0, 0, true);
        isBest(x, 0, 0, 1, 2);
        x.tie(0, 2, 1);
        isBest(x, 9, 0, 1, 2);
        x.household(0, 1, 0, 0, true);
        due("not SITES enough any more", x.best(0), -1);
        x.site(20, 20);
        isBest(x, 9, 0, 1, 2, 3);
    }
}
