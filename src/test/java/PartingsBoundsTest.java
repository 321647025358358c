/** Part 4 of the document's terms, and promises 9 and 18: each sentence that names a bound. */
public final class PartingsBoundsTest extends Checks {
    public static void main(String[] args) {
        fieldsAreNumberedAsTheyCome();
        worthIs1To999();
        refusedFieldDoesNothing();
        eleventhFieldDoesNothing();
        servedWithAsMuchAsDue();
        nobodyElseGetsAny();
        aFieldGoesToOneAlone();
        withDue0AlwaysServed();
        servesTheMost();
        dueOf1();
        givesTheLeast();
        givesNothingThatIsNotNeeded();
        servesHousehold0AheadOfNot();
        firstByWhoIsServedNotByNumber();
        firstByTheSets();
        setsAreNumbers();
        setsOfHouseholds0Then1();
        allFieldsAndAllHouseholds();
        dueBeyondAllFields();
        withoutHouseholds();
        withoutFields();
        partOfNoHousehold();
        partOfAnotherWhat();
        partFollowsWhatChanges();
        Checks.finish();
    }

    private static NewValley withFields(NewValley x, int... worths) {
        for (int worth : worths) {
            x.field(worth);
        }
        return x;
    }

    private static void fieldsAreNumberedAsTheyCome() {
        about("FIELDS 0 .. 9, numbered as they come");
        NewValley x = withDues(5);
        for (int f = 0; f < 10; f++) {
            due("FIELDS", x.look(3), f);
            due("its number", x.field(f == 9 ? 900 : 400 + f), f);
        }
        due("FIELDS", x.look(3), 10);
        isParted(x, 1, 400, 1);
        rules(x, "give 408 when 1=1;");
        isParted(x, 1, 408, 256);
        rules(x, "give 800 when 1=1;");
        isParted(x, 1, 801, 3);
        rules(x, "give 900 when 1=1;");
        isParted(x, 1, 900, 512);
    }

    private static void worthIs1To999() {
        about("FIELDS .. have a WORTH (1 .. 999)");
        NewValley x = new NewValley();
        for (int worth : outside(1, 999)) {
            due("WORTH " + worth, x.field(worth), -1);
        }
        due("FIELDS", x.look(3), 0);
        due("WORTH 1", x.field(1), 0);
        due("WORTH 999", x.field(999), 1);
        x.household(0, 1, 0, 0, true);
        rules(x, "give 1 when 1=1;");
        isParted(x, 1, 1, 1);
        rules(x, "give 999 when 1=1;");
        isParted(x, 1, 999, 2);
        rules(x, "give 9999/10+1 when 1=1;");
        isParted(x, 1, 1000, 3);
        rules(x, "give 1001 when 1=1;");
        isParted(x, 0, 0, 0);
    }

    private static void refusedFieldDoesNothing() {
        about("Promise 9: NONE likewise (and nothing is done)");
        NewValley x = busyValley();
        String before = picture(x);
        for (int worth : outside(1, 999)) {
            due("WORTH " + worth, x.field(worth), -1);
        }
        isUnchanged(before, x);
        due("the next has the next number", x.field(1), 5);
        NewValley all = withFields(withDues(6), 1, 2, 3);
        for (int worth : outside(1, 999)) {
            due("WORTH " + worth, all.field(worth), -1);
        }
        isParted(all, 1, 6, 7);
        due("the next has the next number", all.field(4), 3);
        isParted(all, 1, 6, 7);
    }

    private static void eleventhFieldDoesNothing() {
        about("Promise 9: NONE .. or if there are 10");
        NewValley x = busyValley();
        for (int f = 5; f < 10; f++) {
            due("its number", x.field(90 + f), f);
        }
        String before = picture(x);
        due("the eleventh", x.field(10), -1);
        due("the eleventh again", x.field(999), -1);
        isUnchanged(before, x);
        NewValley all = withFields(withDues(55), 1, 2, 3, 4, 5, 6, 7, 8, 9, 10);
        due("the eleventh", all.field(999), -1);
        isParted(all, 1, 55, 1023);
        due("the eleventh again", all.field(1), -1);
        isParted(all, 1, 55, 1023);
        due("FIELDS", all.look(3), 10);
    }

    private static void servedWithAsMuchAsDue() {
        about("it SERVES those who get as much WORTH as their DUE at least");
        isParted(withFields(withDues(50), 49), 0, 0, 0);
        isParted(withFields(withDues(50), 50), 1, 50, 1);
        isParted(withFields(withDues(50), 51), 1, 51, 1);
        isParted(withFields(withDues(50), 20, 29), 0, 0, 0);
        isParted(withFields(withDues(50), 20, 30), 1, 50, 3);
        isParted(withFields(withDues(50), 20, 31), 1, 51, 3);
        isParted(withFields(withDues(1), 1), 1, 1, 1);
    }

    private static void nobodyElseGetsAny() {
        about("(nobody else gets any)");
        isParted(withFields(withDues(100, 5), 60, 7, 20), 2, 7, 0, 2);
        isParted(withFields(withDues(100), 99), 0, 0, 0);
        isParted(withFields(withDues(1, 9999), 999, 999), 1, 999, 1, 0);
    }

    private static void aFieldGoesToOneAlone() {
        about("A PARTING gives each FIELD to a HOUSEHOLD or to nobody");
        isParted(withFields(withDues(5, 5), 10), 1, 10, 1, 0);
        isParted(withFields(withDues(5, 5), 5, 10), 3, 15, 1, 2);
        isParted(withFields(withDues(5), 5, 10, 5), 1, 5, 1);
    }

    private static void withDue0AlwaysServed() {
        about("those with DUE 0 are always SERVED, with nothing");
        isParted(withDues(0), 1, 0, 0);
        isParted(withFields(withDues(0, 0), 1, 1, 1), 3, 0, 0, 0);
        isParted(withFields(withDues(0, 5, 0), 1), 5, 0, 0, 0, 0);
        isParted(withFields(withDues(0, 1, 0), 1), 7, 1, 0, 1, 0);
        NewValley below = withHouseholds(1);
        rules(below, "give 0-5 when 1=1;");
        isParted(withFields(below, 1), 1, 0, 0);
        isParted(withFields(withHouseholds(8), 1), 255, 0, 0, 0, 0, 0, 0, 0, 0, 0);
    }

    private static void dueOf1() {
        about("those with DUE 0 are always SERVED, with nothing: those with DUE 1 are not");
        isParted(withFields(withDues(1), 1), 1, 1, 1);
        isParted(withDues(1), 0, 0, 0);
        isParted(withFields(withDues(2, 1), 1, 1), 2, 1, 0, 1);
        isParted(withFields(withDues(3, 2, 1), 1, 2), 6, 3, 0, 2, 1);
        isParted(withFields(withDues(1, 1), 1), 1, 1, 1, 0);
    }

    private static void servesTheMost() {
        about("BEST: it SERVES the most HOUSEHOLDS");
        isParted(withFields(withDues(10, 5, 5), 5, 5), 6, 10, 0, 1, 2);
        isParted(withFields(withDues(1, 900, 900), 900, 900), 3, 1800, 1, 2, 0);
        isParted(withFields(withDues(9, 10), 10, 999), 3, 1009, 1, 2);
        isParted(withFields(withDues(30, 20, 10), 10, 20), 6, 30, 0, 2, 1);
    }

    private static void givesTheLeast() {
        about("of these with the least WORTH given in all");
        isParted(withFields(withDues(6, 5), 5, 1), 2, 5, 0, 1);
        isParted(withFields(withDues(5), 9, 8, 7, 6), 1, 6, 8);
        isParted(withFields(withDues(5), 6, 3, 2), 1, 5, 6);
        isParted(withFields(withDues(5, 4), 6, 4, 5), 3, 9, 4, 2);
        isParted(withFields(withDues(7, 7, 6), 6, 999), 5, 1005, 2, 0, 1);
        isParted(withFields(withDues(6, 9999, 5), 5, 1), 4, 5, 0, 0, 1);
        isParted(withFields(withDues(6, 9999, 9999, 9999, 9999, 9999, 9999, 5), 5, 1), 128, 5, 0, 0, 0, 0, 0, 0, 0, 1);
    }

    private static void givesNothingThatIsNotNeeded() {
        about("of these with the least WORTH given in all: a FIELD that is not needed goes to nobody");
        isParted(withFields(withDues(3), 3, 1), 1, 3, 1);
        isParted(withFields(withDues(3), 1, 3), 1, 3, 2);
        isParted(withFields(withDues(4), 3, 3, 3), 1, 6, 3);
        isParted(withFields(withDues(1, 1), 1, 1, 1, 1), 3, 2, 1, 2);
    }

    private static void servesHousehold0AheadOfNot() {
        about("of these the first by who is SERVED (HOUSEHOLD 0 SERVED ahead of not, then 1 ..)");
        isParted(withFields(withDues(5, 5, 5), 6), 1, 6, 1, 0, 0);
        isParted(withFields(withDues(5, 5, 5), 6, 6), 3, 12, 1, 2, 0);
        isParted(withFields(withDues(9, 5, 5), 6), 2, 6, 0, 1, 0);
        isParted(withFields(withDues(9, 5, 9, 5, 5), 6, 6), 10, 12, 0, 1, 0, 2, 0);
        isParted(withFields(withDues(5, 0, 5), 6), 3, 6, 1, 0, 0);
        isParted(withFields(withDues(9, 9, 9, 9, 9, 9, 9, 5), 6), 128, 6, 0, 0, 0, 0, 0, 0, 0, 1);
    }

    private static void firstByWhoIsServedNotByNumber() {
        about("HOUSEHOLD 0 SERVED ahead of not: 0 and 3 ahead of 1 and 2");
        isParted(withFields(withDues(11, 10, 10, 9), 6, 5, 4, 5), 9, 20, 3, 0, 0, 12);
        isParted(withFields(withDues(12, 10, 10, 9), 6, 5, 4, 5), 6, 20, 0, 5, 10, 0);
    }

    private static void firstByTheSets() {
        about("of these the first by the sets of FIELDS of HOUSEHOLDS 0, 1, .. (the lesser first)");
        isParted(withFields(withDues(3), 3, 3, 3), 1, 3, 1);
        isParted(withFields(withDues(3, 3), 3, 3, 3), 3, 6, 1, 2);
        isParted(withFields(withDues(3, 3), 3, 2, 1, 3), 3, 6, 1, 6);
        isParted(withFields(withDues(2, 3), 3, 2, 2, 3), 3, 5, 2, 1);
    }

    private static void setsAreNumbers() {
        about("as numbers, FIELD f counts 2 to the f; the lesser first");
        isParted(withFields(withDues(3), 2, 1, 3), 1, 3, 3);
        isParted(withFields(withDues(3), 1, 3, 2), 1, 3, 2);
        isParted(withFields(withDues(6), 1, 2, 3, 6), 1, 6, 7);
        isParted(withFields(withDues(5), 4, 2, 3, 1), 1, 5, 6);
        for (int f = 0; f < 10; f++) {
            NewValley x = withDues(50);
            for (int i = 0; i < 10; i++) {
                x.field(i == f ? 50 : 60);
            }
            isParted(x, 1, 50, 1 << f);
        }
    }

    private static void setsOfHouseholds0Then1() {
        about("the first by the sets of FIELDS of HOUSEHOLDS 0, 1, ..: 0 ahead of 1, 1 ahead of 2");
        isParted(withFields(withDues(3, 3), 1, 2, 3, 3), 3, 6, 3, 4);
        isParted(withFields(withDues(4, 4), 4, 1, 3, 4), 3, 8, 1, 6);
        isParted(withFields(withDues(5, 4, 4), 4, 4, 5), 7, 13, 4, 1, 2);
        isParted(withFields(withDues(9, 4, 4), 4, 4, 4), 6, 8, 0, 1, 2);
        isParted(withFields(withDues(4, 3), 1, 2, 3, 4, 3), 3, 7, 5, 16);
    }

    private static void allFieldsAndAllHouseholds() {
        about("HOUSEHOLDS 0 .. 7, FIELDS 0 .. 9: all of them");
        NewValley one = withDues(1, 1, 1, 1, 1, 1, 1, 1);
        NewValley two = withDues(2, 1, 1, 1, 1, 1, 1, 2);
        NewValley most = withDues(999, 999, 999, 999, 999, 999, 999, 999);
        for (int f = 0; f < 10; f++) {
            one.field(1);
            two.field(1);
            most.field(999);
        }
        isParted(one, 255, 8, 1, 2, 4, 8, 16, 32, 64, 128);
        isParted(two, 255, 10, 3, 4, 8, 16, 32, 64, 128, 768);
        isParted(most, 255, 7992, 1, 2, 4, 8, 16, 32, 64, 128);
        NewValley halves = withFields(withDues(10, 10, 10, 10, 10, 10, 10, 10), 9, 9, 9, 9, 9, 9, 9, 9, 9, 9);
        isParted(halves, 31, 90, 3, 12, 48, 192, 768, 0, 0, 0);
    }

    private static void dueBeyondAllFields() {
        about("DUE 9999 at most, ten FIELDS of WORTH 999 at most");
        for (int due : new int[] {9990, 9991, 9999}) {
            NewValley x = withDues(due);
            for (int f = 0; f < 10; f++) {
                x.field(999);
            }
            boolean enough = due == 9990;
            isParted(x, enough ? 1 : 0, enough ? 9990 : 0, enough ? 1023 : 0);
        }
        NewValley x = withHouseholds(2);
        rules(x, "give 9999+1 when 1=1;");
        isParted(withFields(x, 999), 0, 0, 0, 0);
    }

    private static void withoutHouseholds() {
        about("PARTINGS without HOUSEHOLDS");
        isParted(new NewValley(), 0, 0);
        isParted(withFields(new NewValley(), 1, 999), 0, 0);
    }

    private static void withoutFields() {
        about("PARTINGS without FIELDS");
        isParted(withDues(1, 0, 9999, 0), 10, 0, 0, 0, 0, 0);
        isParted(withDues(1), 0, 0, 0);
    }

    private static void partOfNoHousehold() {
        about("Promise 18: NONE: no such HOUSEHOLD");
        NewValley x = new NewValley();
        for (int h = 0; h < 8; h++) {
            due("not yet there", x.part(10 + h), -1);
            x.household(0, 1, 0, 0, true);
            due("there", x.part(10 + h), 0);
        }
        due("HOUSEHOLD 8", x.part(18), -1);
        due("HOUSEHOLD -1", x.part(9), -1);
    }

    private static void partOfAnotherWhat() {
        about("Promise 18: NONE: .. or another what");
        NewValley x = withFields(withDues(1, 1, 1, 1, 1, 1, 1, 1), 1, 1, 1, 1, 1, 1, 1, 1);
        for (int what = 3; what < 10; what++) {
            due("part(" + what + ")", x.part(what), -1);
        }
        for (int what : outside(0, 17)) {
            due("part(" + what + ")", x.part(what), -1);
        }
        for (int what : new int[] {LEAST + 9, LEAST + 10, MOST - 7, MOST - 10, -10, -17, -8}) {
            due("part(" + what + ")", x.part(what), -1);
        }
        due("part(17)", x.part(17), 128);
    }

    private static void partFollowsWhatChanges() {
        about("Promise 18: BEST of the PARTINGS, as they are now");
        NewValley x = withFields(withDues(5), 7);
        isParted(x, 1, 7, 1);
        rules(x, "give 8 when papers = 1;");
        isParted(x, 0, 0, 0);
        x.household(0, 1, 0, 0, false);
        isParted(x, 2, 0, 0, 0);
        rules(x, "give 6 when papers = 1;");
        isParted(x, 3, 7, 1, 0);
        rules(x, "give 1/0");
        isParted(x, 3, 7, 1, 0);
        x.papers(1);
        isParted(x, 1, 7, 1, 0);
        x.field(6);
        isParted(x, 3, 13, 1, 2);
        x.rules();
        isParted(x, 3, 0, 0, 0);
        NewValley dearer = withFields(withDues(6, 5), 5, 1);
        isParted(dearer, 2, 5, 0, 1);
        rules(dearer, "give 6 when people=1;give 9 when people=2;");
        isParted(dearer, 1, 6, 3, 0);
    }
}
