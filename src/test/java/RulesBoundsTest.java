import java.util.Arrays;
import java.util.List;

/** Part 2 of the document's terms, promises 11 to 14, and DUE of promise 16: each sentence that names a bound. */
public final class RulesBoundsTest extends Checks {
    private static final String RULE = "give 1 when 1=1;";
    private static final String FACTS = "people land trees papers";
    private static final String UNITS = "5 ( " + FACTS;
    private static final String OPERATORS = "+ - * /";
    private static final String ALL_TOKENS = "give when and 5 ; ( ) < = > $ word 12345 " + OPERATORS + " " + FACTS;

    public static void main(String[] args) {
        feedTellsHowMany();
        feedPutsTheHighestFirst();
        feedComesBehind();
        feedBeyond400();
        feedAllBytes();
        endLeavesTheFirstAlone();
        endOfAllAndOfNone();
        refusedEndChangesNothing();
        rulesLeaveTheTapeEmpty();
        rulesOfAnEmptyTape();
        rulesAreHowMany();
        rulesStayAtAFault();
        faultAtFirst();
        faultOfTheLatest();
        faultOfAnotherWhat();
        blanksAre32And10();
        keywordsOrNone();
        lettersAsManyAsStandTogether();
        numbersOf1To4Digits();
        digitsAsManyAsStandTogether();
        everyByteAsASign();
        whatCanStand();
        faultAtTheEnd();
        faultOfAPartBy0();
        faultOfThe11thRule();
        faultOfThe9thOpen();
        eightOpenAreReckoned();
        faultsTheFirstByPlace();
        faultsAtOnePlaceTheLeast();
        faultsLeaveNothingBehind();
        fullTapeAgainAndAgain();
        fullTapeOfTokens();
        intsWrap();
        comparisonsOfInts();
        partGoesTowards0();
        papersIs1Or0();
        dueIs0AtLeast();
        dueIs9999AtMost();
        dueIs0WithoutARule();
        dueOfTheFirstRule();
        dueOfTheTenthRule();
        allOfBMustBeSo();
        Checks.finish();
    }

    /** Feeds twenty times the same byte. */
    private static int feedByte(NewValley x, int b) {
        int number = b << 24 | b << 16 | b << 8 | b;
        return x.feed(number, number, number, number, number);
    }

    private static void feedTellsHowMany() {
        about("Promise 11: Twenty bytes come behind the TAPE .. how many it has");
        NewValley x = new NewValley();
        for (int i = 1; i <= 20; i++) {
            due("feed " + i, feedByte(x, 32), 20 * i);
        }
        for (int n : new int[] {380, 379, 200, 21, 20, 19, 1, 0}) {
            yes("end(" + n + ")", x.end(n));
            due("feed behind " + n, feedByte(x, 32), n + 20);
        }
    }

    private static void feedPutsTheHighestFirst() {
        about("Promise 11: of each number the highest first");
        for (int place = 0; place < 20; place++) {
            int[] numbers = new int[5];
            Arrays.fill(numbers, 0x20202020);
            numbers[place / 4] ^= ('$' ^ 32) << (24 - place % 4 * 8);
            NewValley x = new NewValley();
            x.feed(numbers[0], numbers[1], numbers[2], numbers[3], numbers[4]);
            due("rules()", x.rules(), -1);
            due("the place of the $", x.fault(1), place);
        }
        NewValley x = new NewValley();
        due("length", x.feed(0x67697665, 0x20312077, 0x68656e20, 0x313d313b, 0x20202020), 20);
        due("'give 1 when 1=1;    '", x.rules(), 1);
    }

    private static void feedComesBehind() {
        about("Promise 11: Twenty bytes come behind the TAPE");
        NewValley x = new NewValley();
        due("the first", feed(x, "give people when peo"), 20);
        due("the second", feed(x, "ple > 4 ; give 7 whe"), 40);
        due("the third", feed(x, "n 1=1;              "), 60);
        due("rules()", x.rules(), 2);
    }

    private static void feedBeyond400() {
        about("Promise 11: NONE, and nothing comes, if there would be more than 400");
        NewValley x = new NewValley();
        for (int i = 1; i <= 20; i++) {
            due("up to 400", feedByte(x, 32), 20 * i);
        }
        due("420 would be more", feedByte(x, '$'), -1);
        yes("it has 400", x.end(400));
        yes("it has 381", x.end(381));
        due("401 would be more", feedByte(x, '$'), -1);
        no("it has 382", x.end(382));
        due("nothing came", x.rules(), 0);
        for (int i = 1; i <= 19; i++) {
            feedByte(x, 32);
        }
        due("400 is not more", feedByte(x, '$'), 400);
        due("it came", x.rules(), -1);
        due("its place", x.fault(1), 380);
    }

    private static void feedAllBytes() {
        about("Promise 11: bytes, of numbers below 0 too");
        for (int b = 0; b < 256; b++) {
            NewValley x = new NewValley();
            due("feed of byte " + b, feed(x, "" + (char) b), 20);
            boolean blank = b == 32 || b == 10;
            due("byte " + b, x.rules(), blank ? 0 : -1);
            due("place of byte " + b, x.fault(1), blank ? -1 : 0);
        }
        NewValley x = new NewValley();
        due("five times -1", x.feed(-1, -1, -1, -1, -1), 20);
        due("rules()", x.rules(), -1);
        due("place", x.fault(1), 0);
    }

    private static void endLeavesTheFirstAlone() {
        about("Promise 12: The TAPE has its first n bytes alone");
        NewValley x = new NewValley();
        feed(x, RULE + "$$$$");
        yes("end(16)", x.end(16));
        no("byte 17 is gone", x.end(17));
        due("rules()", x.rules(), 1);
        feed(x, RULE + "$$$$");
        yes("end(17)", x.end(17));
        due("one more", x.rules(), -1);
        due("its place", x.fault(1), 16);
        feed(x, RULE + "$$$$");
        yes("end(15)", x.end(15));
        due("one less", x.rules(), -1);
        due("the text's length", x.fault(1), 15);
        feed(x, RULE + "$$$$");
        x.end(16);
        due("what comes then comes behind these", feed(x, RULE), 36);
        due("rules()", x.rules(), 2);
    }

    private static void endOfAllAndOfNone() {
        about("Promise 12: true .. if it has not so many");
        NewValley x = new NewValley();
        yes("none of none", x.end(0));
        no("one of none", x.end(1));
        for (int i = 0; i < 20; i++) {
            feedByte(x, 32);
        }
        no("401 of 400", x.end(401));
        yes("400 of 400", x.end(400));
        yes("399 of 400", x.end(399));
        no("400 of 399", x.end(400));
        yes("1 of 399", x.end(1));
        yes("0 of 1", x.end(0));
        no("1 of 0", x.end(1));
        due("rules()", x.rules(), 0);
    }

    private static void refusedEndChangesNothing() {
        about("Promise 12: false, changing nothing, if it has not so many, or n is below 0");
        NewValley x = busyValley();
        String before = picture(x);
        tape(x, RULE);
        for (int n : outside(0, 16)) {
            no("end(" + n + ")", x.end(n));
        }
        isUnchanged(before, x);
        due("the TAPE is as it was", x.rules(), 1);
        NewValley y = new NewValley();
        tape(y, RULE);
        no("end(-1)", y.end(-1));
        no("end(17)", y.end(17));
        due("it has 16", feedByte(y, 32), 36);
    }

    private static void rulesLeaveTheTapeEmpty() {
        about("Promise 13: The TAPE, empty then, is THE RULES");
        NewValley x = new NewValley();
        tape(x, RULE);
        due("rules()", x.rules(), 1);
        no("it has a byte", x.end(1));
        due("it has twenty", feedByte(x, '$'), 20);
        due("a FAULT", x.rules(), -1);
        no("it has a byte behind a FAULT", x.end(1));
        due("it has twenty behind a FAULT", feedByte(x, 32), 20);
        due("rules()", x.rules(), 0);
        yes("it has none", x.end(0));
    }

    private static void rulesOfAnEmptyTape() {
        about("TEXT = {give E when B ;}: none is a text too");
        NewValley x = withHouseholds(1);
        due("no byte", x.rules(), 0);
        due("no FAULT", x.fault(0), 0);
        rules(x, RULE);
        due("one", x.look(4), 1);
        due("no byte", x.rules(), 0);
        due("THE RULES are none", x.look(4), 0);
        due("DUE", x.of(0, 5), 0);
        due("by none", x.of(0, 6), -1);
        due("blanks alone", rules(x, " \n \n "), 0);
    }

    private static void rulesAreHowMany() {
        about("Promise 13: how many");
        for (int many = 0; many <= 10; many++) {
            accepts(RULE.repeat(many), many);
            accepts(" " + RULE.repeat(many) + "\n", many);
        }
    }

    private static void rulesStayAtAFault() {
        about("Promise 13: NONE: a FAULT (they stay)");
        NewValley x = busyValley();
        String before = picture(x);
        for (String text : new String[] {"give 1/0", RULE + "give 1/0", "give 3 when 1/0"}) {
            due(text, rules(x, text), -1);
        }
        rules(x, "give 1/0");
        isUnchanged(before, x);
        NewValley y = withHouseholds(1);
        rules(y, "give 7 when 1=2; give 8 when 1=1;");
        for (String text : new String[] {"$", RULE + "$", RULE.repeat(11), "give ((((((((("}) {
            due(text, rules(y, text), -1);
            due("RULES", y.look(4), 2);
            due("DUE", y.of(0, 5), 8);
            due("by RULE", y.of(0, 6), 1);
        }
    }

    private static void faultAtFirst() {
        about("Promise 14: the FAULT (0 without one), 1 its place (NONE)");
        NewValley x = new NewValley();
        due("without any rules()", x.fault(0), 0);
        due("its place", x.fault(1), -1);
        rules(x, RULE);
        due("without a FAULT", x.fault(0), 0);
        due("its place", x.fault(1), -1);
    }

    private static void faultOfTheLatest() {
        about("Promise 14: Of the latest rules()");
        NewValley x = new NewValley();
        rules(x, "give 1/0");
        due("FAULT", x.fault(0), 2);
        due("place", x.fault(1), 7);
        tape(x, "$$");
        x.end(1);
        due("a TAPE that is no RULES yet", x.fault(0), 2);
        due("its place", x.fault(1), 7);
        x.rules();
        due("FAULT", x.fault(0), 1);
        due("place", x.fault(1), 0);
        rules(x, RULE);
        due("no FAULT any more", x.fault(0), 0);
        due("no place any more", x.fault(1), -1);
        rules(x, RULE.repeat(11));
        due("FAULT", x.fault(0), 3);
        due("place", x.fault(1), 160);
        x.rules();
        due("of an empty TAPE", x.fault(0), 0);
        due("its place", x.fault(1), -1);
    }

    private static void faultOfAnotherWhat() {
        about("Promise 14: NONE for another what");
        NewValley x = new NewValley();
        for (int what : outside(0, 1)) {
            due("fault(" + what + ")", x.fault(what), -1);
        }
        rules(x, "give 1/0");
        for (int what : outside(0, 1)) {
            due("fault(" + what + ")", x.fault(what), -1);
        }
    }

    private static void blanksAre32And10() {
        about("Blanks (32, 10) between");
        for (char c = 0; c < 256; c++) {
            boolean blank = c == 32 || c == 10;
            boolean digit = c >= '0' && c <= '9';
            if (blank || digit) {
                accepts("give" + c + "1 when 1=1;", 1);
            } else if (Character.isLetter(c) && c < 128) {
                rejects("give" + c + "1 when 1=1;", 1, 0);
            } else {
                rejects("give" + c + "1 when 1=1;", 1, c == '(' ? 7 : 4);
            }
            if (blank) {
                accepts(RULE + c, 1);
                accepts(c + RULE, 1);
                accepts("give 1 when 1" + c + "=1" + c + ";", 1);
            } else {
                rejects(RULE + c, 1, 16);
            }
        }
        accepts("\n\n  give  \n 1 \n when\n\n1 = 1 ; \n", 1);
        accepts("give(1)when(1)=(1);give 1when 1=1and 2=2;", 2);
    }

    private static void keywordsOrNone() {
        about("KEYWORDS (give when and people land trees papers) or none");
        String text = "give people+land+trees+papers when 1=1 and 1=1;";
        accepts(text, 1);
        for (String word : new String[] {"give", "people", "land", "trees", "papers", "when", "and"}) {
            int at = text.lastIndexOf(word);
            String before = text.substring(0, at);
            String behind = text.substring(at + word.length());
            rejects(before + word.substring(1) + behind, 1, at);
            rejects(before + word.substring(0, word.length() - 1) + behind, 1, at);
            rejects(before + word + "s" + behind, 1, at);
            rejects(before + "a" + word + behind, 1, at);
            rejects(before + word.toUpperCase() + behind, 1, at);
            rejects(before + word.substring(0, 1).toUpperCase() + word.substring(1) + behind, 1, at);
            rejects(before + word.substring(0, word.length() - 1) + "q" + behind, 1, at);
            rejects(before + word.charAt(0) + " " + word.substring(1) + behind, 1, at);
        }
    }

    private static void lettersAsManyAsStandTogether() {
        about("letters as many as stand together");
        rejects("givepeople when 1=1;", 1, 0);
        rejects("give peoplewhen 1=1;", 1, 5);
        rejects("give landtrees when 1=1;", 1, 5);
        rejects("give land trees when 1=1;", 1, 10);
        rejects("give 1 whenland=1;", 1, 7);
        rejects("give 1 when 1=1 andland=1;", 1, 16);
        rejects("give 1 when land=landand 1=1;", 1, 17);
        rejects("x".repeat(400), 1, 0);
        accepts("give 1when 1=1and 1=1;", 1);
        accepts("give1when1=1and1=1;", 1);
        rejects("give 1 when 1=1;" + "give".repeat(96), 1, 16);
    }

    private static void numbersOf1To4Digits() {
        about("NUMBERS of 1 to 4 digits or none");
        for (String number : new String[] {"0", "9", "10", "99", "100", "999", "1000", "9999", "00", "000", "0000"}) {
            accepts("give " + number + " when 1=1;", 1);
            accepts("give 1 when " + number + "=" + number + ";", 1);
        }
        for (String number : new String[] {"00000", "10000", "99999", "00001", "4294967297", "2147483648",
            "18446744073709551617", "1".repeat(300)}) {
            rejects("give " + number + " when 1=1;", 1, 5);
            rejects("give 1 when " + number + "=1;", 1, 12);
            rejects("give 1 when 1=" + number + ";", 1, 14);
            rejects("give 1/" + number + " when 1=1;", 1, 7);
        }
        NewValley x = withHouseholds(1);
        rules(x, "give 0012 when 0=0000;");
        due("0012 is 12", x.of(0, 5), 12);
    }

    private static void digitsAsManyAsStandTogether() {
        about("digits as many as stand together");
        rejects("give 1234 5 when 1=1;", 1, 10);
        rejects("give 12345 when 1=1;", 1, 5);
        rejects("give 1 2 when 1=1;", 1, 7);
        rejects("give 1land when 1=1;", 1, 6);
        rejects("give land1 when 1=1;", 1, 9);
        accepts("give 1234when 1234=1234and 1=1;", 1);
        NewValley x = withHouseholds(1);
        rules(x, "give 1234 when 1=1;");
        due("all four digits count", x.of(0, 5), 1234);
    }

    private static void everyByteAsASign() {
        about("; + - * / ( ) < = > : no other byte is a TOKEN");
        for (char c = 0; c < 256; c++) {
            boolean blank = c == 32 || c == 10;
            boolean operator = "+-*/".indexOf(c) >= 0;
            boolean goesOn = operator || c >= '0' && c <= '9';
            if (goesOn) {
                accepts("give 1" + c + "1 when 1=1;", 1);
            } else {
                rejects("give 1" + c + "1 when 1=1;", 1, blank ? 7 : 6);
            }
            if ("<=>".indexOf(c) >= 0) {
                accepts("give 1 when 1" + c + "1;", 1);
            } else {
                rejects("give 1 when 1" + c + "1;", 1, blank ? 14 : goesOn ? 15 : 13);
            }
            if (c == ';') {
                accepts("give 1 when 1=1" + c, 1);
            } else {
                rejects("give 1 when 1=1" + c, 1, blank || goesOn ? 16 : 15);
            }
        }
    }

    /** Behind this beginning the TOKENS that can stand are let by, and each other is a FAULT at its own place. */
    private static void onlyThese(String beginning, String canStand) {
        List<String> these = Arrays.asList(canStand.split(" "));
        for (String token : ALL_TOKENS.split(" ")) {
            String text = beginning + token;
            boolean whole = token.equals(";") && these.contains(token);
            if (whole) {
                accepts(text, 1);
            } else {
                rejects(text, 1, these.contains(token) ? text.length() : beginning.length());
                rejects(text + " \n", 1, these.contains(token) ? text.length() + 2 : beginning.length());
            }
        }
    }

    private static void whatCanStand() {
        about("FAULTS: 1 what can't stand there");
        onlyThese("", "give");
        onlyThese("give ", UNITS);
        onlyThese("give 1 ", OPERATORS + " when");
        onlyThese("give land ", OPERATORS + " when");
        onlyThese("give 1 + ", UNITS);
        onlyThese("give 1 - ", UNITS);
        onlyThese("give 1 * ", UNITS);
        onlyThese("give 1 / ", "5");
        onlyThese("give 1 / 2 ", OPERATORS + " when");
        onlyThese("give ( ", UNITS);
        onlyThese("give ( 1 ", OPERATORS + " )");
        onlyThese("give ( 1 / 2 ", OPERATORS + " )");
        onlyThese("give ( ( 1 ) ", OPERATORS + " )");
        onlyThese("give ( 1 ) ", OPERATORS + " when");
        onlyThese("give 1 when ", UNITS);
        onlyThese("give 1 when 1 ", OPERATORS + " < = >");
        onlyThese("give 1 when ( 1 ", OPERATORS + " )");
        onlyThese("give 1 when ( 1 ) ", OPERATORS + " < = >");
        onlyThese("give 1 when 1 < ", UNITS);
        onlyThese("give 1 when 1 = ", UNITS);
        onlyThese("give 1 when 1 > ", UNITS);
        onlyThese("give 1 when 1 = 1 ", OPERATORS + " and ;");
        onlyThese("give 1 when 1 = ( 1 ", OPERATORS + " )");
        onlyThese("give 1 when 1 = 1 and ", UNITS);
        onlyThese("give 1 when 1 = 1 and 2 ", OPERATORS + " < = >");
        onlyThese("give 1 when 1 = 1 and 2 < 3 ", OPERATORS + " and ;");
        onlyThese("give 1 when 1 = 1 ; ", "give");
    }

    private static void faultAtTheEnd() {
        about("FAULTS: 1 (the end: the text's length)");
        String text = "give (1+2)*land/3 when people > 4 and trees = 0;";
        accepts(text, 1);
        for (String cut : new String[] {"give", "give ", "give (", "give (1", "give (1+", "give (1+2", "give (1+2)",
            "give (1+2)*", "give (1+2)*land", "give (1+2)*land/", "give (1+2)*land/3 ", "give (1+2)*land/3 when",
            "give (1+2)*land/3 when people", "give (1+2)*land/3 when people >", "give (1+2)*land/3 when people > 4",
            "give (1+2)*land/3 when people > 4 and", "give (1+2)*land/3 when people > 4 and trees = 0"}) {
            rejects(cut, 1, cut.length());
            rejects(cut + " \n ", 1, cut.length() + 3);
        }
        String sums = "give 1" + "+1".repeat(192);
        accepts(sums + " when 1=1;", 1);
        rejects(sums + " when 1=1 ", 1, 400);
        rejects(sums + " when 1=1", 1, 399);
        rejects(sums + " when 1=1$", 1, 399);
    }

    private static void faultOfAPartBy0() {
        about("FAULTS: 2 (at the NUMBER) a part by 0");
        for (String zero : new String[] {"0", "00", "000", "0000"}) {
            rejects("give 1/" + zero + " when 1=1;", 2, 7);
            rejects("give 1/ \n " + zero + " when 1=1;", 2, 10);
        }
        rejects("give 1/00000 when 1=1;", 1, 7);
        accepts("give 1/1 when 1=1;", 1);
        accepts("give 1/0001 when 1=1;", 1);
        accepts("give 0/9999*0+0-0 when 0=0;", 1);
        rejects("give 6/3/0 when 1=1;", 2, 9);
        rejects("give (land)/0 when 1=1;", 2, 12);
        rejects("give 2*3/0 when 1=1;", 2, 9);
        rejects("give (1/0) when 1=1;", 2, 8);
        rejects("give 1 when 1/0=1;", 2, 14);
        rejects("give 1 when 1=1/0;", 2, 16);
        rejects("give 1 when 1=1 and 2/0=1;", 2, 22);
        rejects("give 1 when 1=1 and 2=2/0;", 2, 24);
        rejects(RULE + "give 1/0 when 1=1;", 2, 23);
    }

    private static void faultOfThe11thRule() {
        about("FAULTS: 3 (at give) the 11th RULE");
        accepts(RULE.repeat(10), 10);
        accepts(RULE.repeat(10) + " \n ", 10);
        rejects(RULE.repeat(11), 3, 160);
        rejects(RULE.repeat(12), 3, 160);
        rejects(RULE.repeat(10) + " \n give 1 when 1=1;", 3, 163);
        rejects(RULE.repeat(10) + "give", 3, 160);
        rejects(RULE.repeat(10) + "give $", 3, 160);
        rejects(RULE.repeat(10) + "give 1/0", 3, 160);
        rejects(RULE.repeat(10) + "when", 1, 160);
        rejects(RULE.repeat(10) + "gives", 1, 160);
        rejects(RULE.repeat(10) + ";", 1, 160);
        rejects(RULE.repeat(9) + "give 1 when 1=1 give", 1, 160);
        rejects(RULE.repeat(9) + "give give", 1, 149);
        NewValley x = new NewValley();
        rules(x, RULE.repeat(10));
        due("the count begins anew with each text", rules(x, RULE.repeat(10)), 10);
    }

    private static void faultOfThe9thOpen() {
        about("FAULTS: 3 (at it) the 9th ( that is open");
        String deep = "((((((((1))))))))";
        for (int open = 0; open <= 8; open++) {
            accepts("give " + "(".repeat(open) + "1" + ")".repeat(open) + " when 1=1;", 1);
        }
        rejects("give (" + deep + ") when 1=1;", 3, 13);
        rejects("give (((((((((", 3, 13);
        rejects("give ((((((((((", 3, 13);
        rejects("give (((((((( \n (", 3, 16);
        rejects("give 1 when (" + deep + ")=1;", 3, 20);
        rejects("give 1 when 1=(" + deep + ");", 3, 22);
        rejects("give 1 when 1=1 and (" + deep + ")=1;", 3, 28);
        accepts("give " + deep + "+" + deep + "*" + deep + " when " + deep + "=" + deep + " and " + deep + ">" + deep + ";", 1);
        accepts("give " + "(1)+".repeat(20) + "1 when 1=1;", 1);
        accepts("give (((((((1+(2)-(3)*(4)))))))) when 1=1;", 1);
        rejects("give (((((((1+(2)-((3", 3, 19);
        rejects("give ((((((((1+(2", 3, 15);
        accepts("give " + deep + " when 1=1;give " + deep + " when 1=1;", 2);
        NewValley x = new NewValley();
        rules(x, "give ((((((((");
        due("the count begins anew with each text", rules(x, "give " + deep + " when 1=1;"), 1);
    }

    private static void eightOpenAreReckoned() {
        about("the 9th ( that is open is a FAULT: the 8th is none, and counts");
        String deepest = "1+2*(".repeat(8) + "3" + ")".repeat(8);
        due(deepest, dueBy(deepest), 1023);
        String inside = deepest.substring(5);
        due("9*(" + inside, dueBy("9*(" + inside), 9 * 511);
        due("9999-2*(" + inside, dueBy("9999-2*(" + inside), 9999 - 2 * 511);
        isSo("1=1 and 1023=" + deepest, true);
        isSo("1=1 and 1022=" + deepest, false);
        isSo("1=1 and " + deepest + "=1023", true);
        String minus = "9-(".repeat(8) + "1" + ")".repeat(8);
        due(minus, dueBy(minus), 1);
        NewValley x = withHouseholds(1);
        rules(x, "give 1 when 1=2;".repeat(9) + "give " + deepest + " when " + deepest + "=1023;");
        due("DUE by the tenth RULE", x.of(0, 5), 1023);
        due("its number", x.of(0, 6), 9);
    }

    private static void faultsTheFirstByPlace() {
        about("FAULTS, the first by its place");
        rejects("give 1/0 $", 2, 7);
        rejects("give $ 1/0", 1, 5);
        rejects("give 1/0+(((((((((1", 2, 7);
        rejects("give (((((((((1/0", 3, 13);
        rejects("give 1/0 when 1/0=1;", 2, 7);
        rejects("give 1 $ (((((((((", 1, 7);
        rejects("give ((((((((( $", 3, 13);
        rejects("$" + RULE.repeat(11), 1, 0);
        rejects(RULE.repeat(9) + "give 1/0 when 1=1;" + RULE, 2, 151);
        rejects(RULE.repeat(9) + "give 1 when 1=1,;" + RULE, 1, 159);
        rejects(RULE.repeat(11) + "$", 3, 160);
        rejects("give $ $ $", 1, 5);
    }

    private static void faultsAtOnePlaceTheLeast() {
        about("FAULTS .. at one place the least");
        rejects("give ((((((((1(", 1, 14);
        rejects("give ((((((((land(", 1, 17);
        rejects("give ((((((((1/(", 1, 15);
        rejects("give ((((((((1/2(", 1, 16);
        rejects("give (((((((((", 3, 13);
        rejects("give ((((((((1+(", 3, 15);
        rejects("give ((((((((1*(", 3, 15);
        rejects(RULE.repeat(9) + "give 1 when 1=1 give 1 when 1=1;", 1, 160);
        rejects("give 1/00000", 1, 7);
    }

    private static void faultsLeaveNothingBehind() {
        about("Promise 13: NONE: a FAULT (they stay): the next text is read as if there had been none");
        NewValley x = withHouseholds(1);
        for (String text : new String[] {"give 1+", "give 1*", "give (1+2*(", "give 1/0", "give 1 when 1=1 and",
            "give ((((((((1", "give 1 when 1-", RULE + "give 3 when 1=2;give"}) {
            due(text, rules(x, text), -1);
            due("rules()", rules(x, "give 9-5 when 2*3=6;"), 1);
            due("DUE", x.of(0, 5), 4);
            due("by RULE", x.of(0, 6), 0);
        }
    }

    private static void fullTapeAgainAndAgain() {
        about("Promise 13: a TAPE of 400 bytes, time and again");
        NewValley x = withHouseholds(1);
        String sums = "1" + "+1".repeat(191);
        for (int i = 0; i < 9; i++) {
            due("rules()", rules(x, "give " + sums + "+" + i + " when 1=1;"), 1);
            due("DUE", x.of(0, 5), 192 + i);
            due("a FAULT", rules(x, "give " + sums + "+" + i + " when 1=1$"), -1);
            due("its place", x.fault(1), 399);
            due("DUE", x.of(0, 5), 192 + i);
        }
    }

    private static void fullTapeOfTokens() {
        about("Promise 13: a TAPE of 400 bytes, each a TOKEN of its own or none");
        for (String token : new String[] {";", "+", "-", "*", "/", "(", ")", "<", "=", ">", "$", "\u0000", "\u00ff"}) {
            rejects(token.repeat(400), 1, 0);
        }
        rejects("give" + "(".repeat(396), 3, 12);
        rejects("give1" + "-".repeat(395), 1, 6);
        accepts(" ".repeat(400), 0);
        accepts("\n".repeat(400), 0);
        accepts(" ".repeat(384) + RULE, 1);
        accepts(RULE + "\n".repeat(384), 1);
    }

    private static int dueBy(String sum) {
        NewValley x = new NewValley();
        x.household(0, 7, 11, 13, true);
        due("rules() of " + sum, rules(x, "give " + sum + " when 1=1;"), 1);
        return x.of(0, 5);
    }

    private static void isSo(String test, boolean want) {
        NewValley x = new NewValley();
        x.household(0, 7, 11, 13, false);
        due("rules() of " + test, rules(x, "give 1 when " + test + ";"), 1);
        due(test, x.of(0, 6), want ? 0 : -1);
        due(test, x.of(0, 5), want ? 1 : 0);
    }

    private static void intsWrap() {
        about("Ints, which wrap");
        String least = "2048*1024*1024";
        isSo(least + "<0", true);
        isSo(least + "-1>0", true);
        isSo(least + "-1=2047*1024*1024+1024*1024-1", true);
        isSo("(" + least + "-1)+1<0", true);
        isSo("(" + least + "-1)+1=" + least, true);
        isSo("0-" + least + "=" + least, true);
        isSo("0-" + least + "<0", true);
        isSo("4096*1024*1024=0", true);
        isSo("4096*1024*1024+5=5", true);
        isSo("(" + least + "-1)*2=0-2", true);
        isSo(least + "/2=0-1024*1024*1024", true);
        isSo(least + "/9999=0-21*9999-4790", true);
        isSo("9999*9999*9999<0", true);
        due("a DUE that wraps below 0", dueBy("9999*9999*22"), 0);
        due("a DUE that wraps above 0 again", dueBy("4096*1024*1024+77"), 77);
        due("a DUE of the greatest", dueBy(least + "-1"), 9999);
        due("a DUE of the least", dueBy(least), 0);
        due("each step wraps, not the end alone", dueBy("4096*1024*1024/2+3"), 3);
    }

    private static void comparisonsOfInts() {
        about("C = E (< | = | >) E");
        isSo("4<5", true);
        isSo("5<5", false);
        isSo("6<5", false);
        isSo("4=5", false);
        isSo("5=5", true);
        isSo("6=5", false);
        isSo("4>5", false);
        isSo("5>5", false);
        isSo("6>5", true);
        isSo("0-1<0", true);
        isSo("0-1>0", false);
        isSo("2048*1024*1024<1", true);
        isSo("2048*1024*1024>1", false);
        isSo("2048*1024*1024-1>0-1", true);
        isSo("2048*1024*1024-1<0-1", false);
        isSo("2048*1024*1024<2048*1024*1024-1", true);
    }

    private static void partGoesTowards0() {
        about("/ goes towards 0");
        isSo("7/2=3", true);
        isSo("(0-7)/2=0-3", true);
        isSo("(0-1)/2=0", true);
        isSo("(0-8)/2=0-4", true);
        isSo("(0-9999)/9999=0-1", true);
        isSo("(0-9998)/9999=0", true);
        isSo("9998/9999=0", true);
        isSo("9999/9999=1", true);
        due("10-(0-7)/2", dueBy("10-(0-7)/2"), 13);
        due("7/2*2", dueBy("7/2*2"), 6);
        due("100/7/2", dueBy("100/7/2"), 7);
    }

    private static void papersIs1Or0() {
        about("papers is 1 or 0");
        NewValley x = new NewValley();
        x.household(0, 1, 0, 0, false);
        x.household(0, 1, 0, 0, true);
        rules(x, "give 5 + papers when papers < 2;");
        due("without", x.of(0, 5), 5);
        due("with", x.of(1, 5), 6);
        x.papers(0);
        due("with them now", x.of(0, 5), 6);
    }

    private static void dueIs0AtLeast() {
        about("DUE: 0 at least");
        due("1", dueBy("1"), 1);
        due("0", dueBy("0"), 0);
        due("-1", dueBy("0-1"), 0);
        due("-9999", dueBy("0-9999"), 0);
        NewValley x = withHouseholds(1);
        rules(x, "give 3-4 when 1=1; give 9 when 1=1;");
        due("DUE", x.of(0, 5), 0);
        due("it is by the first RULE all the same", x.of(0, 6), 0);
        rules(x, "give 1+(3-9) when 1=1;");
        due("a part of E may be below 0", x.of(0, 5), 0);
        rules(x, "give 9+(3-9) when 1=1;");
        due("a part of E may be below 0", x.of(0, 5), 3);
    }

    private static void dueIs9999AtMost() {
        about("DUE: 9999 at most");
        due("9998", dueBy("9998"), 9998);
        due("9999", dueBy("9999"), 9999);
        due("10000", dueBy("9999+1"), 9999);
        due("9999*9999", dueBy("9999*9999"), 9999);
        due("a part of E may be above 9999", dueBy("9999*9999/9999"), 9999);
        due("a part of E may be above 9999", dueBy("9999*20-9999*19-9998"), 1);
        NewValley x = withHouseholds(1);
        rules(x, "give 9999+1 when 9999+1>9999;");
        due("by RULE", x.of(0, 6), 0);
    }

    private static void dueIs0WithoutARule() {
        about("DUE: 0 without one; the RULE by which (NONE)");
        NewValley x = withHouseholds(1);
        due("without any RULES", x.of(0, 5), 0);
        due("by RULE", x.of(0, 6), -1);
        rules(x, "give 5 when people > 1; give 6 when people < 1;");
        due("none is so", x.of(0, 5), 0);
        due("by RULE", x.of(0, 6), -1);
        rules(x, "give 5 when people > 1; give 6 when people = 1;");
        due("one is so", x.of(0, 5), 6);
        due("by RULE", x.of(0, 6), 1);
    }

    private static void dueOfTheFirstRule() {
        about("E of the first RULE whose B is so");
        NewValley x = new NewValley();
        for (int people = 1; people <= 6; people++) {
            x.household(0, people, 0, 0, true);
        }
        rules(x, "give 1 when people>5;give 2 when people>3;give 9 when people>2 and people<4;give 0 when people=2;"
                + "give 7 when people=2;");
        int[] dues = {0, 0, 9, 2, 2, 1};
        int[] by = {-1, 3, 2, 1, 1, 0};
        for (int h = 0; h < 6; h++) {
            due("DUE of " + h, x.of(h, 5), dues[h]);
            due("by RULE", x.of(h, 6), by[h]);
        }
    }

    private static void dueOfTheTenthRule() {
        about("the 11th RULE is a FAULT: the tenth is none, and counts");
        StringBuilder text = new StringBuilder();
        for (int r = 0; r < 10; r++) {
            text.append("give ").append(100 + r).append(" when people=").append(r + 1).append(";");
        }
        NewValley x = new NewValley();
        x.household(0, 10, 0, 0, true);
        x.household(0, 1, 0, 0, true);
        x.household(0, 11, 0, 0, true);
        due("rules()", rules(x, text.toString()), 10);
        due("DUE by the tenth", x.of(0, 5), 109);
        due("its number", x.of(0, 6), 9);
        due("DUE by the first", x.of(1, 5), 100);
        due("its number", x.of(1, 6), 0);
        due("DUE by none", x.of(2, 5), 0);
        due("its number", x.of(2, 6), -1);
    }

    private static void allOfBMustBeSo() {
        about("B = C {and C}");
        isSo("1=1", true);
        isSo("1=2", false);
        isSo("1=1 and 1=1", true);
        isSo("1=2 and 1=1", false);
        isSo("1=1 and 1=2", false);
        isSo("1=2 and 1=2", false);
        String many = "1=1" + " and 1=1".repeat(30);
        isSo(many, true);
        isSo(many + " and 1=2", false);
        isSo("1=2 and " + many, false);
        isSo("papers=0 and people=7 and trees>land", true);
        isSo("papers=0 and people=8 and trees>land", false);
    }
}
