import java.util.ArrayList;
import java.util.Arrays;
import java.util.List;

/** The document once more, written as plainly as can be and without regard to speed, for the tests to compare with. */
final class PlainValley {
    private static final int NONE = -1;

    private static final class House {
        int village;
        int people;
        int land;
        int trees;
        boolean papers;
        int builtIn = NONE;
    }

    private interface Sum {
        int of(House h);
    }

    private interface Test {
        boolean of(House h);
    }

    private record Rule(Sum give, Test when) {
    }

    private static final class Fault extends RuntimeException {
        private static final long serialVersionUID = 1L;
        final int kind;
        final int place;

        Fault(int kind, int place) {
            super("fault", null, false, false);
            this.kind = kind;
            this.place = place;
        }
    }

    private int month = 0;
    private final int[] levels = new int[36];
    private final int[] heights = {50, 50, 50, 50};
    private final int[] crews = new int[36];
    private final List<House> houses = new ArrayList<>();
    private final int[][] ties = new int[8][8];
    private final List<int[]> sites = new ArrayList<>();
    private final List<Integer> fields = new ArrayList<>();
    private String tape = "";
    private List<Rule> rules = new ArrayList<>();
    private int fault = 0;
    private int faultPlace = NONE;
    /** What was last searched for, told in full, and what was found: the searches take long. */
    private String wayAsked = "";
    private int[] wayFound;
    private String partingAsked = "";
    private int[] partingFound;

    PlainValley() {
        Arrays.fill(crews, 1);
    }

    boolean water(int m, int level) {
        if (m < month || m > 35 || level < 0 || level > 99) {
            return false;
        }
        levels[m] = level;
        return true;
    }

    boolean village(int v, int height) {
        if (v < 0 || v > 3 || height < 0 || height > 99) {
            return false;
        }
        heights[v] = height;
        return true;
    }

    int drowned(int v) {
        if (v < 0 || v > 3) {
            return NONE;
        }
        int m = 0;
        while (m < 36 && levels[m] < heights[v]) {
            m++;
        }
        return m;
    }

    int household(int v, int people, int land, int trees, boolean papers) {
        if (v < 0 || v > 3 || people < 1 || people > 20 || land < 0 || land > 99 || trees < 0 || trees > 99) {
            return NONE;
        }
        if (houses.size() == 8) {
            return NONE;
        }
        House h = new House();
        h.village = v;
        h.people = people;
        h.land = land;
        h.trees = trees;
        h.papers = papers;
        houses.add(h);
        return houses.size() - 1;
    }

    private boolean is(int h) {
        return h >= 0 && h < houses.size();
    }

    boolean papers(int h) {
        if (!is(h) || houses.get(h).papers) {
            return false;
        }
        houses.get(h).papers = true;
        return true;
    }

    boolean tie(int a, int b, int v) {
        if (!is(a) || !is(b) || a == b || v < 0 || v > 9) {
            return false;
        }
        ties[Math.min(a, b)][Math.max(a, b)] = v;
        return true;
    }

    int site(int x, int y) {
        if (x < 0 || x > 20 || y < 0 || y > 20 || sites.size() == 8) {
            return NONE;
        }
        sites.add(new int[] {x, y});
        return sites.size() - 1;
    }

    int field(int worth) {
        if (worth < 1 || worth > 999 || fields.size() == 10) {
            return NONE;
        }
        fields.add(worth);
        return fields.size() - 1;
    }

    boolean builders(int m, int n) {
        if (m < month || m > 35 || n < 0 || n > 8) {
            return false;
        }
        crews[m] = n;
        return true;
    }

    int feed(int a, int b, int c, int d, int e) {
        if (tape.length() > 380) {
            return NONE;
        }
        StringBuilder text = new StringBuilder(tape);
        for (int number : new int[] {a, b, c, d, e}) {
            text.append((char) (number >>> 24));
            text.append((char) (number >>> 16 & 255));
            text.append((char) (number >>> 8 & 255));
            text.append((char) (number & 255));
        }
        tape = text.toString();
        return tape.length();
    }

    boolean end(int n) {
        if (n < 0 || n > tape.length()) {
            return false;
        }
        tape = tape.substring(0, n);
        return true;
    }

    int rules() {
        String text = tape;
        tape = "";
        fault = 0;
        faultPlace = NONE;
        try {
            rules = new Grammar(text).text();
            return rules.size();
        } catch (Fault f) {
            fault = f.kind;
            faultPlace = f.place;
            return NONE;
        }
    }

    int fault(int what) {
        return what == 0 ? fault : what == 1 ? faultPlace : NONE;
    }

    int look(int what) {
        return switch (what) {
            case 0 -> month;
            case 1 -> houses.size();
            case 2 -> sites.size();
            case 3 -> fields.size();
            case 4 -> rules.size();
            case 5 -> (int) houses.stream().filter(h -> h.builtIn != NONE).count();
            case 6 -> {
                int late = 0;
                for (int h = 0; h < houses.size(); h++) {
                    late += late(h);
                }
                yield late;
            }
            default -> NONE;
        };
    }

    int of(int h, int what) {
        if (!is(h)) {
            return NONE;
        }
        House one = houses.get(h);
        return switch (what) {
            case 0 -> one.village;
            case 1 -> one.people;
            case 2 -> one.land;
            case 3 -> one.trees;
            case 4 -> one.papers ? 1 : 0;
            case 5 -> due(one);
            case 6 -> rule(one);
            case 7 -> planned()[h];
            case 8 -> late(h);
            default -> NONE;
        };
    }

    /** The MONTH of every HOUSEHOLD's house: those without one stand in a line, and the months take from its head. */
    private int[] planned() {
        int[] plan = new int[houses.size()];
        List<Integer> line = new ArrayList<>();
        for (int h = 0; h < plan.length; h++) {
            plan[h] = houses.get(h).builtIn;
            if (plan[h] == NONE) {
                line.add(h);
            }
        }
        line.sort((a, b) -> drowned(houses.get(a).village) - drowned(houses.get(b).village));
        int m = month;
        int left = crews[m];
        for (int h : line) {
            while (m < 36 && left == 0) {
                m++;
                left = m < 36 ? crews[m] : 0;
            }
            if (m < 36) {
                plan[h] = m;
                left--;
            }
        }
        return plan;
    }

    private int late(int h) {
        int drowned = drowned(houses.get(h).village);
        int built = planned()[h];
        return drowned != 36 && (built == NONE || built > drowned - 1) ? 1 : 0;
    }

    int months(int n) {
        if (n < 1 || n > 12 || month + n > 35) {
            return NONE;
        }
        for (int i = 0; i < n; i++) {
            int[] plan = planned();
            for (int h = 0; h < plan.length; h++) {
                if (plan[h] == month) {
                    houses.get(h).builtIn = month;
                }
            }
            month++;
        }
        return month;
    }

    private int rule(House one) {
        for (int r = 0; r < rules.size(); r++) {
            if (rules.get(r).when.of(one)) {
                return r;
            }
        }
        return NONE;
    }

    private int due(House one) {
        int r = rule(one);
        return r == NONE ? 0 : Math.max(0, Math.min(9999, rules.get(r).give.of(one)));
    }

    int best(int what) {
        int n = houses.size();
        if (n > sites.size()) {
            return NONE;
        }
        int[] found = bestWay(n);
        if (what == 0) {
            return found[n];
        }
        return what >= 10 && what < 10 + n ? found[what - 10] : NONE;
    }

    private int[] bestWay(int n) {
        String asked = n + Arrays.deepToString(ties) + Arrays.deepToString(sites.toArray());
        if (!asked.equals(wayAsked)) {
            wayAsked = asked;
            wayFound = new int[n + 1];
            wayFound[n] = NONE;
            everyWay(0, new int[n], wayFound);
        }
        return wayFound;
    }

    private void everyWay(int h, int[] way, int[] found) {
        int n = way.length;
        if (h == n) {
            int bond = bond(way);
            if (bond > found[n]) {
                System.arraycopy(way, 0, found, 0, n);
                found[n] = bond;
            }
            return;
        }
        for (int s = 0; s < sites.size(); s++) {
            boolean free = true;
            for (int i = 0; i < h; i++) {
                free &= way[i] != s;
            }
            if (free) {
                way[h] = s;
                everyWay(h + 1, way, found);
            }
        }
    }

    private int bond(int[] way) {
        int bond = 0;
        for (int b = 0; b < way.length; b++) {
            for (int a = 0; a < b; a++) {
                int[] p = sites.get(way[a]);
                int[] q = sites.get(way[b]);
                bond += ties[a][b] * Math.max(0, 10 - Math.abs(p[0] - q[0]) - Math.abs(p[1] - q[1]));
            }
        }
        return bond;
    }

    int part(int what) {
        int n = houses.size();
        int[] dues = new int[n];
        for (int h = 0; h < n; h++) {
            dues[h] = due(houses.get(h));
        }
        int[] sets = bestParting(dues);
        int served = 0;
        int worth = 0;
        for (int h = 0; h < n; h++) {
            worth += worth(sets[h]);
            served |= worth(sets[h]) >= dues[h] ? 1 << h : 0;
        }
        return switch (what) {
            case 0 -> Integer.bitCount(served);
            case 1 -> worth;
            case 2 -> served;
            default -> what >= 10 && what < 10 + n ? sets[what - 10] : NONE;
        };
    }

    private int[] bestParting(int[] dues) {
        String asked = Arrays.toString(dues) + fields;
        if (!asked.equals(partingAsked)) {
            partingAsked = asked;
            boolean few = Math.pow(dues.length + 1, fields.size()) <= 3000;
            partingFound = few ? everyParting(dues) : bestSets(dues);
        }
        return partingFound;
    }

    private int worth(int set) {
        int worth = 0;
        for (int f = 0; f < fields.size(); f++) {
            worth += (set >> f & 1) * fields.get(f);
        }
        return worth;
    }

    /** Truly all PARTINGS, for few FIELDS. */
    private int[] everyParting(int[] dues) {
        int n = dues.length;
        int[] best = null;
        int ways = (int) Math.pow(n + 1, fields.size());
        for (int way = 0; way < ways; way++) {
            int[] sets = new int[n];
            int digits = way;
            for (int f = 0; f < fields.size(); f++) {
                int who = digits % (n + 1);
                digits /= n + 1;
                if (who < n) {
                    sets[who] |= 1 << f;
                }
            }
            boolean allowed = true;
            for (int h = 0; h < n; h++) {
                allowed &= sets[h] == 0 || worth(sets[h]) >= dues[h];
            }
            if (allowed && (best == null || isAhead(sets, best, dues, 0))) {
                best = sets;
            }
        }
        return best;
    }

    /** Whether of two PARTINGS among HOUSEHOLDS first, .. the one is ahead of the other. */
    private boolean isAhead(int[] one, int[] other, int[] dues, int first) {
        int count = 0;
        int worth = 0;
        int who = 0;
        int set = 0;
        for (int i = 0; i < one.length; i++) {
            boolean a = worth(one[i]) >= dues[first + i];
            boolean b = worth(other[i]) >= dues[first + i];
            count += (a ? 1 : 0) - (b ? 1 : 0);
            worth += worth(one[i]) - worth(other[i]);
            if (who == 0) {
                who = (a ? 1 : 0) - (b ? 1 : 0);
            }
            if (set == 0) {
                set = Integer.compare(other[i], one[i]);
            }
        }
        int ahead = count != 0 ? count : worth != 0 ? -worth : who != 0 ? who : set;
        return ahead > 0;
    }

    /** For more FIELDS: for each HOUSEHOLD every set, and behind it the best of those who follow. */
    private int[] bestSets(int[] dues) {
        return bestFrom(0, (1 << fields.size()) - 1, dues, new int[9][1024][]);
    }

    private int[] bestFrom(int h, int left, int[] dues, int[][][] known) {
        int n = dues.length;
        if (h == n) {
            return new int[0];
        }
        if (known[h][left] != null) {
            return known[h][left];
        }
        int[] best = null;
        for (int set = 0; set <= left; set++) {
            if ((set & left) != set || set != 0 && worth(set) < dues[h]) {
                continue;
            }
            int[] rest = bestFrom(h + 1, left & ~set, dues, known);
            int[] sets = new int[n - h];
            sets[0] = set;
            System.arraycopy(rest, 0, sets, 1, rest.length);
            if (best == null || isAhead(sets, best, dues, h)) {
                best = sets;
            }
        }
        known[h][left] = best;
        return best;
    }

    /** The grammar, one method a line of it. */
    private static final class Grammar {
        private final String text;
        private int at = 0;
        private int open = 0;

        Grammar(String text) {
            this.text = text;
        }

        private String peek() {
            while (at < text.length() && (text.charAt(at) == 32 || text.charAt(at) == 10)) {
                at++;
            }
            if (at == text.length()) {
                return "";
            }
            String rest = text.substring(at);
            String run = rest.replaceAll("(?s)^([A-Za-z]+|[0-9]+|.).*$", "$1");
            boolean good = run.matches("give|when|and|people|land|trees|papers|[0-9]{1,4}|[-;+*/()<=>]");
            return good ? run : "no token";
        }

        private String take() {
            String token = peek();
            at += token.length();
            return token;
        }

        private void need(String token) {
            if (!peek().equals(token)) {
                throw new Fault(1, at);
            }
            take();
        }

        List<Rule> text() {
            List<Rule> read = new ArrayList<>();
            while (!peek().isEmpty()) {
                if (read.size() == 10 && peek().equals("give")) {
                    throw new Fault(3, at);
                }
                need("give");
                Sum give = sum();
                need("when");
                Test when = tests();
                need(";");
                read.add(new Rule(give, when));
            }
            return read;
        }

        private Sum sum() {
            Sum all = product();
            while (peek().equals("+") || peek().equals("-")) {
                boolean plus = take().equals("+");
                Sum left = all;
                Sum right = product();
                all = plus ? h -> left.of(h) + right.of(h) : h -> left.of(h) - right.of(h);
            }
            return all;
        }

        private Sum product() {
            Sum all = unit();
            while (peek().equals("*") || peek().equals("/")) {
                Sum left = all;
                if (take().equals("*")) {
                    Sum right = unit();
                    all = h -> left.of(h) * right.of(h);
                    continue;
                }
                if (!peek().matches("[0-9]+")) {
                    throw new Fault(1, at);
                }
                int divisor = Integer.parseInt(peek());
                if (divisor == 0) {
                    throw new Fault(2, at);
                }
                take();
                all = h -> left.of(h) / divisor;
            }
            return all;
        }

        private Sum unit() {
            String token = peek();
            if (token.matches("[0-9]+")) {
                int number = Integer.parseInt(take());
                return h -> number;
            }
            switch (token) {
                case "people":
                    take();
                    return h -> h.people;
                case "land":
                    take();
                    return h -> h.land;
                case "trees":
                    take();
                    return h -> h.trees;
                case "papers":
                    take();
                    return h -> h.papers ? 1 : 0;
                case "(":
                    return enclosed();
                default:
                    throw new Fault(1, at);
            }
        }

        private Sum enclosed() {
            if (open == 8) {
                throw new Fault(3, at);
            }
            take();
            open++;
            Sum inside = sum();
            need(")");
            open--;
            return inside;
        }

        private Test tests() {
            Test all = comparison();
            while (peek().equals("and")) {
                take();
                Test left = all;
                Test right = comparison();
                all = h -> left.of(h) && right.of(h);
            }
            return all;
        }

        private Test comparison() {
            Sum left = sum();
            String sign = peek();
            if (!sign.matches("[<=>]")) {
                throw new Fault(1, at);
            }
            take();
            Sum right = sum();
            return switch (sign) {
                case "<" -> h -> left.of(h) < right.of(h);
                case "=" -> h -> left.of(h) == right.of(h);
                default -> h -> left.of(h) > right.of(h);
            };
        }
    }
}
