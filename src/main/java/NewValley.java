/** A valley that will be drowned, and those who move out of it. What each call answers stands in DOC.md. */
public final class NewValley {
    public static final int NONE = -1;

    private static final int MONTHS = 36;
    private static final int MOST_MONTHS_AT_ONCE = 12;
    private static final int VILLAGES = 4;
    private static final int FIRST_HEIGHT = 50;
    private static final int HIGHEST = 99;
    private static final int HOUSEHOLDS = 8;
    private static final int MOST_PEOPLE = 20;
    private static final int MOST_LAND = 99;
    private static final int MOST_TREES = 99;
    private static final int MOST_TIES = 9;
    private static final int SITES = 8;
    private static final int FARTHEST = 20;
    private static final int NEAREST = 10;
    private static final int FIELDS = 10;
    private static final int MOST_WORTH = 999;
    private static final int FIRST_BUILT = 1;
    private static final int MOST_BUILT = 8;
    private static final int TAPE_BYTES = 400;
    private static final int FED_BYTES = 20;
    private static final int RULES = 10;
    private static final int MOST_OPEN = 8;
    private static final int MOST_DIGITS = 4;
    private static final int MOST_DUE = 9999;
    /** Where the questions about one HOUSEHOLD begin in best(..) and part(..). */
    private static final int BY_HOUSEHOLD = 10;

    private int month;
    private final Flood flood;
    private final Households households;
    private final Builders crew;
    private final Ways ways;
    private final Fields fields;
    private final Tape tape;
    private final RuleReader reader;
    private RuleBook book;
    /** Where the next RULES are written, so that those in force stay if there is a FAULT. */
    private RuleBook draft;
    /** Null until it is first asked for: its rows are most of the room that an object takes. */
    private Partings partings;
    private boolean partingsKnown;

    public NewValley() {
        month = 0;
        flood = new Flood();
        households = new Households();
        crew = new Builders();
        ways = new Ways();
        fields = new Fields();
        tape = new Tape();
        reader = new RuleReader();
        book = new RuleBook();
        draft = new RuleBook();
        partings = null;
        partingsKnown = false;
    }

    public boolean water(int month, int level) {
        return month >= this.month && flood.setLevel(month, level);
    }

    public boolean village(int v, int height) {
        return flood.setHeight(v, height);
    }

    public int drowned(int v) {
        return flood.monthOf(v);
    }

    public int household(int v, int people, int land, int trees, boolean papers) {
        boolean canBe = isWithin(v, 0, VILLAGES - 1) && isWithin(people, 1, MOST_PEOPLE)
                && isWithin(land, 0, MOST_LAND) && isWithin(trees, 0, MOST_TREES);
        if (!canBe || households.isFull()) {
            return NONE;
        }
        partingsKnown = false;
        return households.add(v, people, land, trees, papers);
    }

    public boolean papers(int h) {
        boolean given = households.givePapers(h);
        if (given) {
            partingsKnown = false;
        }
        return given;
    }

    public boolean tie(int a, int b, int v) {
        boolean canBe = households.has(a) && households.has(b) && a != b && isWithin(v, 0, MOST_TIES);
        return canBe && ways.setTies(a, b, v);
    }

    public int site(int x, int y) {
        boolean canBe = isWithin(x, 0, FARTHEST) && isWithin(y, 0, FARTHEST);
        return canBe ? ways.addSite(x, y) : NONE;
    }

    public int field(int worth) {
        if (!isWithin(worth, 1, MOST_WORTH) || fields.isFull()) {
            return NONE;
        }
        partingsKnown = false;
        return fields.add(worth);
    }

    public boolean builders(int month, int n) {
        return month >= this.month && crew.setHouses(month, n);
    }

    public int feed(int a, int b, int c, int d, int e) {
        if (tape.length + FED_BYTES > TAPE_BYTES) {
            return NONE;
        }
        tape.append(a);
        tape.append(b);
        tape.append(c);
        tape.append(d);
        tape.append(e);
        return tape.length;
    }

    public boolean end(int n) {
        return tape.cutTo(n);
    }

    public int rules() {
        boolean faultless = reader.read(tape, draft);
        tape.cutTo(0);
        if (!faultless) {
            return NONE;
        }
        RuleBook old = book;
        book = draft;
        draft = old;
        partingsKnown = false;
        return book.count;
    }

    public int fault(int what) {
        switch (what) {
            case 0:
                return reader.fault;
            case 1:
                return reader.faultPlace;
            default:
                return NONE;
        }
    }

    public int look(int what) {
        switch (what) {
            case 0:
                return month;
            case 1:
                return households.count;
            case 2:
                return ways.sites;
            case 3:
                return fields.count;
            case 4:
                return book.count;
            case 5:
                return households.countReady();
            case 6:
                crew.plan(households, flood, month);
                return households.countLate();
            default:
                return NONE;
        }
    }

    public int of(int h, int what) {
        if (!households.has(h)) {
            return NONE;
        }
        switch (what) {
            case 0:
                return households.village[h];
            case 1:
                return households.people[h];
            case 2:
                return households.land[h];
            case 3:
                return households.trees[h];
            case 4:
                return households.papers[h];
            case 5:
                return dueOf(h);
            case 6:
                return book.ruleFor(households.factsOf(h));
            case 7:
                crew.plan(households, flood, month);
                return households.house[h];
            case 8:
                crew.plan(households, flood, month);
                return households.isLate(h) ? 1 : 0;
            default:
                return NONE;
        }
    }

    public int best(int what) {
        boolean ofHousehold = what >= BY_HOUSEHOLD && households.has(what - BY_HOUSEHOLD);
        if (households.count > ways.sites || (what != 0 && !ofHousehold)) {
            return NONE;
        }
        ways.find(households.count);
        return ofHousehold ? ways.bestSites[what - BY_HOUSEHOLD] : ways.bestBond;
    }

    public int part(int what) {
        boolean ofHousehold = what >= BY_HOUSEHOLD && households.has(what - BY_HOUSEHOLD);
        if (!isWithin(what, 0, 2) && !ofHousehold) {
            return NONE;
        }
        Partings found = findPartings();
        switch (what) {
            case 0:
                return Integer.bitCount(found.served);
            case 1:
                return found.worthGiven;
            case 2:
                return found.served;
            default:
                return found.given[what - BY_HOUSEHOLD];
        }
    }

    public int months(int n) {
        if (!isWithin(n, 1, MOST_MONTHS_AT_ONCE) || month + n >= MONTHS) {
            return NONE;
        }
        crew.plan(households, flood, month);
        month += n;
        households.finishHousesBefore(month);
        return month;
    }

    private static boolean isWithin(int number, int least, int most) {
        return number >= least && number <= most;
    }

    private int dueOf(int h) {
        int[] facts = households.factsOf(h);
        return book.dueBy(book.ruleFor(facts), facts);
    }

    private Partings findPartings() {
        Partings found = partings;
        if (found == null) {
            found = new Partings();
            partings = found;
        }
        if (!partingsKnown) {
            for (int h = 0; h < households.count; h++) {
                found.setDue(h, dueOf(h));
            }
            found.find(households.count, fields);
            partingsKnown = true;
        }
        return found;
    }

    /** WATER in each MONTH, and the VILLAGES that it comes to. */
    private static final class Flood {
        private final int[] levels = new int[MONTHS];
        private final int[] heights = new int[VILLAGES];

        Flood() {
            for (int v = 0; v < VILLAGES; v++) {
                heights[v] = FIRST_HEIGHT;
            }
        }

        boolean setLevel(int month, int level) {
            if (!isWithin(month, 0, MONTHS - 1) || !isWithin(level, 0, HIGHEST)) {
                return false;
            }
            levels[month] = level;
            return true;
        }

        boolean setHeight(int v, int height) {
            if (!isWithin(v, 0, VILLAGES - 1) || !isWithin(height, 0, HIGHEST)) {
                return false;
            }
            heights[v] = height;
            return true;
        }

        /** The MONTH in which VILLAGE v is DROWNED, MONTHS if never, NONE if there is no such VILLAGE. */
        int monthOf(int v) {
            if (!isWithin(v, 0, VILLAGES - 1)) {
                return NONE;
            }
            for (int m = 0; m < MONTHS; m++) {
                if (levels[m] >= heights[v]) {
                    return m;
                }
            }
            return MONTHS;
        }
    }

    /** Those who move: a row for each thing that is known of them. */
    private static final class Households {
        private int count = 0;
        private final int[] village = new int[HOUSEHOLDS];
        private final int[] people = new int[HOUSEHOLDS];
        private final int[] land = new int[HOUSEHOLDS];
        private final int[] trees = new int[HOUSEHOLDS];
        private final int[] papers = new int[HOUSEHOLDS];
        /** The MONTH in which the house is built: settled once it is ready, until then as it was last planned. */
        private final int[] house = new int[HOUSEHOLDS];
        private final boolean[] ready = new boolean[HOUSEHOLDS];
        /** The MONTH in which the VILLAGE is DROWNED, as it was at the last plan. */
        private final int[] drowning = new int[HOUSEHOLDS];
        private final int[] facts = new int[RuleBook.FACTS];

        boolean has(int h) {
            return h >= 0 && h < count;
        }

        boolean isFull() {
            return count >= HOUSEHOLDS;
        }

        int add(int v, int itsPeople, int itsLand, int itsTrees, boolean hasPapers) {
            if (isFull()) {
                return NONE;
            }
            village[count] = v;
            people[count] = itsPeople;
            land[count] = itsLand;
            trees[count] = itsTrees;
            papers[count] = hasPapers ? 1 : 0;
            house[count] = NONE;
            count++;
            return count - 1;
        }

        boolean givePapers(int h) {
            if (!has(h) || papers[h] == 1) {
                return false;
            }
            papers[h] = 1;
            return true;
        }

        /** What THE RULES can ask of HOUSEHOLD h, in a row that the next call uses again. */
        int[] factsOf(int h) {
            if (has(h)) {
                facts[RuleBook.factAt(Code.PEOPLE)] = people[h];
                facts[RuleBook.factAt(Code.LAND)] = land[h];
                facts[RuleBook.factAt(Code.TREES)] = trees[h];
                facts[RuleBook.factAt(Code.PAPERS)] = papers[h];
            }
            return facts;
        }

        void beginPlan(Flood flood) {
            for (int h = 0; h < count; h++) {
                drowning[h] = flood.monthOf(village[h]);
                if (!ready[h]) {
                    house[h] = NONE;
                }
            }
        }

        /** The HOUSEHOLD that the next house is for, or NONE. */
        int nextInLine() {
            int next = NONE;
            for (int h = 0; h < count; h++) {
                if (house[h] == NONE && (next == NONE || drowning[h] < drowning[next])) {
                    next = h;
                }
            }
            return next;
        }

        void planHouse(int h, int month) {
            if (has(h)) {
                house[h] = month;
            }
        }

        void finishHousesBefore(int month) {
            for (int h = 0; h < count; h++) {
                if (house[h] != NONE && house[h] < month) {
                    ready[h] = true;
                }
            }
        }

        boolean isLate(int h) {
            if (!has(h) || drowning[h] >= MONTHS) {
                return false;
            }
            return house[h] == NONE || house[h] >= drowning[h];
        }

        int countLate() {
            int late = 0;
            for (int h = 0; h < count; h++) {
                if (isLate(h)) {
                    late++;
                }
            }
            return late;
        }

        int countReady() {
            int houses = 0;
            for (int h = 0; h < count; h++) {
                if (ready[h]) {
                    houses++;
                }
            }
            return houses;
        }
    }

    /** How many houses can be BUILT in each MONTH, and the plan for whom they will be. */
    private static final class Builders {
        private final int[] houses = new int[MONTHS];

        Builders() {
            for (int m = 0; m < MONTHS; m++) {
                houses[m] = FIRST_BUILT;
            }
        }

        boolean setHouses(int month, int n) {
            if (!isWithin(month, 0, MONTHS - 1) || !isWithin(n, 0, MOST_BUILT)) {
                return false;
            }
            houses[month] = n;
            return true;
        }

        void plan(Households households, Flood flood, int now) {
            households.beginPlan(flood);
            for (int m = Math.max(now, 0); m < MONTHS; m++) {
                for (int i = 0; i < houses[m]; i++) {
                    int next = households.nextInLine();
                    if (next == NONE) {
                        return;
                    }
                    households.planHouse(next, m);
                }
            }
        }
    }

    /** The bytes that have come and are not THE RULES yet. */
    private static final class Tape {
        private static final int BYTES_OF_A_NUMBER = 4;

        private int length = 0;
        private final int[] bytes = new int[TAPE_BYTES];

        void append(int number) {
            if (length + BYTES_OF_A_NUMBER > TAPE_BYTES) {
                return;
            }
            for (int shift = 24; shift >= 0; shift -= 8) {
                bytes[length] = (number >>> shift) & 255;
                length++;
            }
        }

        boolean cutTo(int n) {
            if (n < 0 || n > length) {
                return false;
            }
            length = n;
            return true;
        }

        int byteAt(int place) {
            return place >= 0 && place < length ? bytes[place] : NONE;
        }

        boolean spells(String word, int from, int to) {
            if (to - from != word.length()) {
                return false;
            }
            for (int i = 0; i < word.length(); i++) {
                if (byteAt(from + i) != word.charAt(i)) {
                    return false;
                }
            }
            return true;
        }
    }

    /** What a TOKEN is: a NUMBER stands for itself, the others are below 0. The steps of a RuleBook are told so too. */
    private static final class Code {
        static final int PEOPLE = -1;
        static final int LAND = -2;
        static final int TREES = -3;
        static final int PAPERS = -4;
        static final int PLUS = -5;
        static final int MINUS = -6;
        static final int STAR = -7;
        static final int SLASH = -8;
        static final int LESS = -9;
        static final int EQUAL = -10;
        static final int MORE = -11;
        static final int AND = -12;
        static final int GIVE = -13;
        static final int WHEN = -14;
        static final int SEMICOLON = -15;
        static final int OPEN = -16;
        static final int CLOSE = -17;
        static final int NO_TOKEN = -18;
        static final int END = -19;

        private Code() {
        }

        static boolean isNumber(int code) {
            return code >= 0;
        }

        static boolean isFact(int code) {
            return isWithin(code, PAPERS, PEOPLE);
        }

        static boolean isComparison(int code) {
            return isWithin(code, MORE, LESS);
        }

        /** How strongly an operator binds; 0: it is none. */
        static int strength(int code) {
            switch (code) {
                case PLUS:
                case MINUS:
                    return 1;
                case STAR:
                case SLASH:
                    return 2;
                default:
                    return 0;
            }
        }

        static int ofSign(int c) {
            switch (c) {
                case ';':
                    return SEMICOLON;
                case '+':
                    return PLUS;
                case '-':
                    return MINUS;
                case '*':
                    return STAR;
                case '/':
                    return SLASH;
                case '(':
                    return OPEN;
                case ')':
                    return CLOSE;
                case '<':
                    return LESS;
                case '=':
                    return EQUAL;
                case '>':
                    return MORE;
                default:
                    return NO_TOKEN;
            }
        }

        static int ofWord(Tape tape, int from, int to) {
            if (tape.spells("give", from, to)) {
                return GIVE;
            }
            if (tape.spells("when", from, to)) {
                return WHEN;
            }
            if (tape.spells("and", from, to)) {
                return AND;
            }
            if (tape.spells("people", from, to)) {
                return PEOPLE;
            }
            if (tape.spells("land", from, to)) {
                return LAND;
            }
            if (tape.spells("trees", from, to)) {
                return TREES;
            }
            return tape.spells("papers", from, to) ? PAPERS : NO_TOKEN;
        }
    }

    /** The TOKENS of a TAPE, and which of them is being read. */
    private static final class Tokens {
        private int count = 0;
        private int current = 0;
        /** Every TOKEN has a byte of its own at least; the END comes behind them all. */
        private final int[] codes = new int[TAPE_BYTES + 1];
        private final int[] places = new int[TAPE_BYTES + 1];

        void cut(Tape tape) {
            count = 0;
            current = 0;
            int at = 0;
            for (int i = 0; i < TAPE_BYTES && at < tape.length; i++) {
                int c = tape.byteAt(at);
                if (c == ' ' || c == '\n') {
                    at++;
                } else if (isLetter(c)) {
                    at = cutWord(tape, at);
                } else if (isDigit(c)) {
                    at = cutNumber(tape, at);
                } else {
                    add(Code.ofSign(c), at);
                    at++;
                }
            }
            add(Code.END, tape.length);
        }

        int code() {
            return current < count ? codes[current] : Code.END;
        }

        int place() {
            return current < count ? places[current] : 0;
        }

        /** Goes on to the next TOKEN; behind the END there is none. */
        void advance() {
            if (current + 1 < count) {
                current++;
            }
        }

        private void add(int code, int place) {
            if (count <= TAPE_BYTES) {
                codes[count] = code;
                places[count] = place;
                count++;
            }
        }

        private static boolean isLetter(int c) {
            return isWithin(c, 'a', 'z') || isWithin(c, 'A', 'Z');
        }

        private static boolean isDigit(int c) {
            return isWithin(c, '0', '9');
        }

        private int cutWord(Tape tape, int from) {
            int to = from;
            while (to < tape.length && isLetter(tape.byteAt(to))) {
                to++;
            }
            add(Code.ofWord(tape, from, to), from);
            return to;
        }

        private int cutNumber(Tape tape, int from) {
            int number = 0;
            int to = from;
            while (to < tape.length && isDigit(tape.byteAt(to))) {
                number = number * 10 + (tape.byteAt(to) - '0');
                to++;
            }
            // Of more digits the number may have wrapped, but then it is not used.
            add(to - from <= MOST_DIGITS ? number : Code.NO_TOKEN, from);
            return to;
        }
    }

    /** THE RULES, each as two runs of steps for a stack: what it gives, and when. */
    private static final class RuleBook {
        static final int FACTS = 4;

        /** Two operands for each level of ( ), the outermost too, two more beside them, and some to spare. */
        private static final int DEEPEST = 2 * MOST_OPEN + 8;

        private int count = 0;
        private int length = 0;
        /** Every step comes of a TOKEN of its own. */
        private final int[] steps = new int[TAPE_BYTES];
        private final int[] giveAt = new int[RULES];
        private final int[] whenAt = new int[RULES];
        private final int[] endAt = new int[RULES];
        private int depth = 0;
        private final int[] stack = new int[DEEPEST];

        void clear() {
            count = 0;
            length = 0;
        }

        boolean isFull() {
            return count >= RULES;
        }

        void beginGive() {
            if (!isFull()) {
                giveAt[count] = length;
            }
        }

        void beginWhen() {
            if (!isFull()) {
                whenAt[count] = length;
            }
        }

        void endRule() {
            if (!isFull()) {
                endAt[count] = length;
                count++;
            }
        }

        void write(int step) {
            if (length < TAPE_BYTES) {
                steps[length] = step;
                length++;
            }
        }

        /** Where a row of facts holds what this code asks for. */
        static int factAt(int code) {
            return Code.isFact(code) ? Code.PEOPLE - code : 0;
        }

        /** The first RULE that is so for these facts, or NONE. */
        int ruleFor(int[] facts) {
            for (int r = 0; r < count; r++) {
                if (run(whenAt[r], endAt[r], facts) == 1) {
                    return r;
                }
            }
            return NONE;
        }

        int dueBy(int rule, int[] facts) {
            if (rule < 0 || rule >= count) {
                return 0;
            }
            int due = run(giveAt[rule], whenAt[rule], facts);
            return Math.max(0, Math.min(MOST_DUE, due));
        }

        private int run(int from, int to, int[] facts) {
            depth = 0;
            for (int i = Math.max(from, 0); i < to && i < TAPE_BYTES; i++) {
                int step = steps[i];
                if (Code.isNumber(step)) {
                    push(step);
                } else if (Code.isFact(step)) {
                    int at = factAt(step);
                    push(at < facts.length ? facts[at] : 0);
                } else {
                    int right = pop();
                    int left = pop();
                    push(join(left, step, right));
                }
            }
            return pop();
        }

        private static int join(int left, int step, int right) {
            switch (step) {
                case Code.PLUS:
                    return left + right;
                case Code.MINUS:
                    return left - right;
                case Code.STAR:
                    return left * right;
                case Code.SLASH:
                    return right == 0 ? 0 : left / right;
                case Code.LESS:
                    return left < right ? 1 : 0;
                case Code.EQUAL:
                    return left == right ? 1 : 0;
                case Code.MORE:
                    return left > right ? 1 : 0;
                case Code.AND:
                    return left & right;
                default:
                    return 0;
            }
        }

        private void push(int number) {
            if (depth < DEEPEST) {
                stack[depth] = number;
                depth++;
            }
        }

        private int pop() {
            if (depth <= 0) {
                return 0;
            }
            depth--;
            return stack[depth];
        }
    }

    /**
     * Reads a TAPE from left to right into a RuleBook and stops at the first FAULT. The grammar is such that the
     * first TOKEN at which the reading can't go on is also the first that can't stand where it does.
     */
    private static final class RuleReader {
        private static final int CANT_STAND = 1;
        private static final int PART_BY_0 = 2;
        private static final int TOO_MANY = 3;
        /** An operator of each strength outside of all ( ), and these and the ( itself for each that is open. */
        private static final int MOST_WAITING = 2 + 3 * MOST_OPEN;

        private int fault = 0;
        private int faultPlace = NONE;
        private final Tokens tokens = new Tokens();
        /** Of the E that is being read: how many ( are open, and these and the operators that wait for a right side. */
        private int open = 0;
        private int waits = 0;
        private final int[] waiting = new int[MOST_WAITING];

        boolean read(Tape tape, RuleBook book) {
            fault = 0;
            faultPlace = NONE;
            tokens.cut(tape);
            book.clear();
            for (int r = 0; r <= RULES; r++) {
                if (tokens.code() == Code.END) {
                    return true;
                }
                if (!readRule(book)) {
                    return false;
                }
            }
            return fail(TOO_MANY);
        }

        private boolean fail(int why) {
            fault = why;
            faultPlace = tokens.place();
            return false;
        }

        private boolean expect(int code) {
            if (tokens.code() != code) {
                return fail(CANT_STAND);
            }
            tokens.advance();
            return true;
        }

        private boolean readRule(RuleBook book) {
            if (tokens.code() == Code.GIVE && book.isFull()) {
                return fail(TOO_MANY);
            }
            book.beginGive();
            if (!expect(Code.GIVE) || !readSum(book) || !expect(Code.WHEN)) {
                return false;
            }
            book.beginWhen();
            if (!readConditions(book) || !expect(Code.SEMICOLON)) {
                return false;
            }
            book.endRule();
            return true;
        }

        /** B: each comparison behind the first is joined at once to those ahead of it. */
        private boolean readConditions(RuleBook book) {
            for (int i = 0; i <= TAPE_BYTES; i++) {
                if (!readSum(book)) {
                    return false;
                }
                int comparison = tokens.code();
                if (!Code.isComparison(comparison)) {
                    return fail(CANT_STAND);
                }
                tokens.advance();
                if (!readSum(book)) {
                    return false;
                }
                book.write(comparison);
                if (i > 0) {
                    book.write(Code.AND);
                }
                if (tokens.code() != Code.AND) {
                    return true;
                }
                tokens.advance();
            }
            return fail(CANT_STAND);
        }

        /** E: an operator is written as soon as one comes that binds no stronger, or what it stands in ends. */
        private boolean readSum(RuleBook book) {
            open = 0;
            waits = 0;
            for (int i = 0; i <= TAPE_BYTES; i++) {
                if (!readUnit(book) || !readBehindUnit(book)) {
                    return false;
                }
                int operator = tokens.code();
                int strength = Code.strength(operator);
                if (strength == 0) {
                    writeWaiting(1, book);
                    return open == 0 || fail(CANT_STAND);
                }
                writeWaiting(strength, book);
                putToWait(operator);
                tokens.advance();
            }
            return fail(CANT_STAND);
        }

        /** The ( ahead of a NUMBER or a fact, and that itself. */
        private boolean readUnit(RuleBook book) {
            for (int i = 0; i < TAPE_BYTES && tokens.code() == Code.OPEN; i++) {
                if (open >= MOST_OPEN) {
                    return fail(TOO_MANY);
                }
                open++;
                putToWait(Code.OPEN);
                tokens.advance();
            }
            int unit = tokens.code();
            if (!Code.isNumber(unit) && !Code.isFact(unit)) {
                return fail(CANT_STAND);
            }
            book.write(unit);
            tokens.advance();
            return true;
        }

        /** Every ) and every part by a NUMBER that comes behind a unit: behind each of them a unit or a T is whole. */
        private boolean readBehindUnit(RuleBook book) {
            for (int i = 0; i < TAPE_BYTES; i++) {
                int code = tokens.code();
                boolean closes = code == Code.CLOSE && open > 0;
                if (!closes && code != Code.SLASH) {
                    return true;
                }
                tokens.advance();
                if (closes) {
                    writeWaiting(1, book);
                    waits = Math.max(0, waits - 1);
                    open--;
                    continue;
                }
                int divisor = tokens.code();
                if (!Code.isNumber(divisor) || divisor == 0) {
                    return fail(divisor == 0 ? PART_BY_0 : CANT_STAND);
                }
                writeWaiting(Code.strength(Code.SLASH), book);
                book.write(divisor);
                book.write(Code.SLASH);
                tokens.advance();
            }
            return true;
        }

        private void putToWait(int code) {
            if (waits < MOST_WAITING) {
                waiting[waits] = code;
                waits++;
            }
        }

        /** Writes the operators that wait, the latest first, as far as they bind so strongly at least. */
        private void writeWaiting(int strength, RuleBook book) {
            while (waits > 0 && Code.strength(waiting[waits - 1]) >= strength) {
                waits--;
                book.write(waiting[waits]);
            }
        }
    }

    /** SITES, TIES, and the BEST of the WAYS. */
    private static final class Ways {
        private int sites = 0;
        private final int[] xs = new int[SITES];
        private final int[] ys = new int[SITES];
        private final int[][] near = new int[SITES][SITES];
        private final int[][] ties = new int[HOUSEHOLDS][HOUSEHOLDS];

        private int bestBond = 0;
        private final int[] bestSites = new int[HOUSEHOLDS];
        /** For how many HOUSEHOLDS the BEST is known; NONE: it is not. */
        private int knownFor = NONE;

        /** Of the search: how many HOUSEHOLDS, where those ahead are, and which SITES these have. */
        private int households = 0;
        private final int[] chosen = new int[HOUSEHOLDS];
        private final boolean[] taken = new boolean[SITES];
        /** In row h, at j * SITES + s: the BOND of HOUSEHOLD j at SITE s with those ahead of h. */
        private final int[][] pull = new int[HOUSEHOLDS + 1][HOUSEHOLDS * SITES];
        /** The most that HOUSEHOLDS h, h + 1, .. can have of BOND among themselves. */
        private final int[] among = new int[HOUSEHOLDS + 1];

        int addSite(int x, int y) {
            if (sites >= SITES) {
                return NONE;
            }
            xs[sites] = x;
            ys[sites] = y;
            for (int s = 0; s < sites; s++) {
                int away = Math.abs(x - xs[s]) + Math.abs(y - ys[s]);
                near[s][sites] = Math.max(0, NEAREST - away);
                near[sites][s] = near[s][sites];
            }
            sites++;
            knownFor = NONE;
            return sites - 1;
        }

        boolean setTies(int a, int b, int v) {
            if (!isWithin(a, 0, HOUSEHOLDS - 1) || !isWithin(b, 0, HOUSEHOLDS - 1)) {
                return false;
            }
            if (ties[a][b] != v) {
                ties[a][b] = v;
                ties[b][a] = v;
                knownFor = NONE;
            }
            return true;
        }

        void find(int count) {
            if (count == knownFor || !isWithin(count, 0, sites)) {
                return;
            }
            households = count;
            boundAmong();
            bestBond = NONE;
            placeFrom(0, 0);
            knownFor = count;
        }

        private void boundAmong() {
            int nearest = 0;
            for (int s = 0; s < sites; s++) {
                for (int t = 0; t < s; t++) {
                    nearest = Math.max(nearest, near[s][t]);
                }
            }
            among[households] = 0;
            for (int h = households - 1; h >= 0; h--) {
                int tiesBehind = 0;
                for (int j = h + 1; j < households; j++) {
                    tiesBehind += ties[h][j];
                }
                among[h] = among[h + 1] + tiesBehind * nearest;
            }
        }

        /** Tries the SITES for HOUSEHOLD h, the lesser first. */
        private void placeFrom(int h, int bond) {
            if (h >= households) {
                keep(bond);
                return;
            }
            for (int s = 0; s < sites; s++) {
                if (!taken[s]) {
                    placeAt(h, s, bond);
                }
            }
        }

        /** Goes on to the next HOUSEHOLD only if a greater BOND may yet come of it. */
        private void placeAt(int h, int s, int bond) {
            int grown = bond + pull[h][h * SITES + s];
            chosen[h] = s;
            taken[s] = true;
            if (grown + drawBehind(h, s) > bestBond) {
                placeFrom(h + 1, grown);
            }
            taken[s] = false;
        }

        /** Draws those behind h to it at SITE s; the answer is what they can add to the BOND at most. */
        private int drawBehind(int h, int s) {
            int hope = among[h + 1];
            for (int j = h + 1; j < households; j++) {
                hope += drawOne(h, s, j);
            }
            return hope;
        }

        private int drawOne(int h, int s, int j) {
            int tiesOfBoth = ties[h][j];
            int most = 0;
            for (int t = 0; t < sites; t++) {
                if (!taken[t]) {
                    int at = j * SITES + t;
                    int drawn = pull[h][at] + tiesOfBoth * near[s][t];
                    pull[h + 1][at] = drawn;
                    most = Math.max(most, drawn);
                }
            }
            return most;
        }

        /** What is kept first stays against those that are only as great, so it is the first by the SITES. */
        private void keep(int bond) {
            if (bond > bestBond) {
                bestBond = bond;
                System.arraycopy(chosen, 0, bestSites, 0, households);
            }
        }
    }

    /** The new FIELDS. */
    private static final class Fields {
        private int count = 0;
        private final int[] worths = new int[FIELDS];

        boolean isFull() {
            return count >= FIELDS;
        }

        int add(int worth) {
            if (isFull()) {
                return NONE;
            }
            worths[count] = worth;
            count++;
            return count - 1;
        }
    }

    /**
     * The BEST of the PARTINGS. How good it is for some HOUSEHOLDS is held as one number, its key: SERVED for each
     * who is, less WORTH_UNIT for each WORTH given, and a bit for who is SERVED (HOUSEHOLD 0 the highest). Those
     * with DUE 0 are left out of the keys, since nothing can be better or worse for them.
     */
    private static final class Partings {
        private static final int SETS = 1 << FIELDS;
        private static final int WORTH_UNIT = 1 << HOUSEHOLDS;
        /** More than all the WORTH that there can be. */
        private static final int SERVED = WORTH_UNIT * 16384;

        private final int[] dues = new int[HOUSEHOLDS];
        /** Of each set of FIELDS: its WORTH, and that without the one of its FIELDS that has the least. */
        private final int[] worth = new int[SETS];
        private final int[] worthLessOne = new int[SETS];
        /** At h * SETS + set: the best key of the HOUSEHOLDS behind h, if the FIELDS of the set are left to them. */
        private final int[] behind = new int[HOUSEHOLDS * SETS];

        private int served = 0;
        private int worthGiven = 0;
        private final int[] given = new int[HOUSEHOLDS];

        void setDue(int h, int due) {
            if (isWithin(h, 0, HOUSEHOLDS - 1)) {
                dues[h] = due;
            }
        }

        void find(int count, Fields fields) {
            int households = Math.min(count, HOUSEHOLDS);
            int all = (1 << fields.count) - 1;
            weighSets(fields);
            rankNobodyBehind(households - 1);
            for (int h = households - 1; h > 0; h--) {
                rankWith(h, all);
            }
            served = 0;
            int left = all;
            for (int h = 0; h < households; h++) {
                given[h] = dues[h] == 0 ? 0 : leastOfBest(h, left);
                left &= ~given[h];
                if (dues[h] == 0 || given[h] != 0) {
                    served |= 1 << h;
                }
            }
            worthGiven = worth[all & ~left];
        }

        private void weighSets(Fields fields) {
            for (int f = 0; f < fields.count; f++) {
                int own = fields.worths[f];
                int alone = 1 << f;
                worth[alone] = own;
                worthLessOne[alone] = 0;
                for (int set = 1; set < alone; set++) {
                    int least = Math.min(own, worth[set] - worthLessOne[set]);
                    worth[alone + set] = worth[set] + own;
                    worthLessOne[alone + set] = worth[set] + own - least;
                }
            }
        }

        private void rankNobodyBehind(int h) {
            if (!isWithin(h, 0, HOUSEHOLDS - 1)) {
                return;
            }
            for (int set = 0; set < SETS; set++) {
                behind[h * SETS + set] = 0;
            }
        }

        /** Fills the row of those behind h - 1 from the row of those behind h, who come after h itself. */
        private void rankWith(int h, int all) {
            int row = h * SETS;
            System.arraycopy(behind, row, behind, row - SETS, all + 1);
            if (dues[h] == 0) {
                return;
            }
            for (int set = 1; set <= all; set++) {
                if (isJustEnough(set, dues[h])) {
                    rankWithSet(h, set, all & ~set);
                }
            }
        }

        private void rankWithSet(int h, int set, int others) {
            int key = keyOf(h, set);
            int from = h * SETS;
            int to = from - SETS + set;
            int rest = others;
            for (int i = 0; i < SETS && rest >= 0; i++) {
                behind[to + rest] = Math.max(behind[to + rest], behind[from + rest] + key);
                rest = rest == 0 ? NONE : (rest - 1) & others;
            }
        }

        /** Of the sets that HOUSEHOLD h can have in a BEST, if these FIELDS are left, the least; 0: it isn't SERVED. */
        private int leastOfBest(int h, int left) {
            int row = h * SETS;
            int bestKey = behind[row + left];
            int bestSet = 0;
            for (int set = 1; set <= left; set++) {
                if ((set & ~left) == 0 && isJustEnough(set, dues[h])) {
                    int key = behind[row + left - set] + keyOf(h, set);
                    if (key > bestKey) {
                        bestKey = key;
                        bestSet = set;
                    }
                }
            }
            return bestSet;
        }

        /** A set that would do without one of its FIELDS is in no BEST, since each of them has some WORTH. */
        private boolean isJustEnough(int set, int due) {
            return worth[set] >= due && worthLessOne[set] < due;
        }

        private int keyOf(int h, int set) {
            return SERVED - worth[set] * WORTH_UNIT + (WORTH_UNIT >> (h + 1));
        }
    }
}
