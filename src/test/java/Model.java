import java.math.BigInteger;
import java.util.ArrayList;
import java.util.List;

/** The document once more, as slow and plain as can be: every rain is tried, every text is read anew at each look. */
final class Model {
    static final class CardModel {
        int number, kind, v;
        List<Integer> digits = new ArrayList<>();
        List<String> tests = new ArrayList<>();

        CardModel copy() {
            CardModel c = new CardModel();
            c.number = number;
            c.kind = kind;
            c.v = v;
            c.digits = new ArrayList<>(digits);
            c.tests = new ArrayList<>(tests);
            return c;
        }
    }

    static final class State {
        String tape = "";
        int reaches, span, sum, odds, hour;
        int[] bank = {}, mill = {}, level = {}, boards = {}, way = {};
        List<CardModel> cards = new ArrayList<>();
        /** The card at each reach; null is none. */
        CardModel[] hung = {};
        List<Integer> rain = new ArrayList<>();
        boolean bellBroken;
        int asleep;

        State copy() {
            State s = new State();
            s.tape = tape;
            s.reaches = reaches;
            s.span = span;
            s.sum = sum;
            s.odds = odds;
            s.hour = hour;
            s.bank = bank.clone();
            s.mill = mill.clone();
            s.level = level.clone();
            s.boards = boards.clone();
            s.way = way.clone();
            s.cards = new ArrayList<>(cards);
            s.hung = hung.clone();
            s.rain = new ArrayList<>(rain);
            s.bellBroken = bellBroken;
            s.asleep = asleep;
            return s;
        }
    }

    State s = new State();
    State image = null;
    List<Integer> trace = new ArrayList<>();

    // ---- texts

    int feed(long w, int n) {
        if (n < 1 || n > 8) return -2;
        if (s.tape.length() + n > 120) return -4;
        for (int k = n - 1; k >= 0; k--) s.tape += (char) (w >> 8 * k & 0xff);
        return s.tape.length();
    }

    /** What one clause may look like: # a digit, % a digit that is not 0. */
    private static boolean canBegin(String clause, int reachesBefore) {
        String[] shapes = {"span #", "sum #", "odds #", "reach % # #"};
        for (int k = 0; k < (reachesBefore < 3 ? 4 : 3); k++) if (fits(clause, shapes[k])) return true;
        return false;
    }

    private static boolean fits(String text, String shape) {
        if (text.length() > shape.length()) return false;
        for (int k = 0; k < text.length(); k++) {
            char t = text.charAt(k), h = shape.charAt(k);
            boolean ok = h == '#' ? t >= '0' && t <= '9' : h == '%' ? t >= '1' && t <= '9' : t == h;
            if (!ok) return false;
        }
        return true;
    }

    private static boolean isWhole(String clause) {
        return clause.startsWith("r") ? clause.length() == 11 : clause.startsWith("su") ? clause.length() == 5 : clause.length() == 6;
    }

    static int riverFault(String tape) {
        String clause = "";
        int reaches = 0, clauses = 1;
        for (int p = 0; p < tape.length(); p++) {
            char c = tape.charAt(p);
            if (c == ';' && isWhole(clause) && clauses < 12) {
                if (clause.startsWith("r")) reaches++;
                clauses++;
                clause = "";
            } else {
                clause += c;
                if (!canBegin(clause, reaches)) return p;
            }
        }
        if (!isWhole(clause)) return tape.length();
        return clause.startsWith("r") || reaches > 0 ? -1 : tape.length();
    }

    int river() {
        String tape = s.tape;
        s.tape = "";
        int fault = riverFault(tape);
        if (fault >= 0) return -10 - fault;
        s.span = 3;
        s.sum = 9;
        s.odds = 5;
        s.hour = 0;
        s.reaches = 0;
        List<int[]> rows = new ArrayList<>();
        for (String clause : tape.split(";")) {
            String[] part = clause.split(" ");
            int n = Integer.parseInt(part[1]);
            switch (part[0]) {
                case "span": s.span = n == 0 ? 1 : n > 3 ? 3 : n; break;
                case "sum": s.sum = n; break;
                case "odds": s.odds = n; break;
                default: rows.add(new int[] {n, Integer.parseInt(part[2]), Integer.parseInt(part[3])});
            }
        }
        int r = rows.size();
        s.reaches = r;
        s.bank = new int[r];
        s.mill = new int[r];
        s.level = new int[r];
        s.boards = new int[r];
        s.way = new int[r];
        s.hung = new CardModel[r];
        for (int i = 0; i < r; i++) {
            s.bank[i] = rows.get(i)[0];
            s.mill[i] = rows.get(i)[1];
            s.level[i] = Math.min(s.bank[i], rows.get(i)[2]);
            s.way[i] = 1;
        }
        return r;
    }

    /** A machine that goes byte by byte; what is open stands on a stack. */
    static int cardFault(String tape) {
        String lead = " if ";
        int at = -1, lines = 1;
        String open = "";
        for (int p = 0; p < tape.length(); p++) {
            char c = tape.charAt(p);
            if (at == -1) {
                if (c < '0' || c > '3') return p;
                at = 0;
            } else if (at < 4) {
                if (c != lead.charAt(at)) return p;
                at++;
            } else if (at == 4) {
                if ((c == '!' || c == '(') && open.length() < 5) open += c;
                else if ("lhwc".indexOf(c) >= 0) at = 5;
                else return p;
            } else if (at == 5) {
                if ("<=>".indexOf(c) < 0) return p;
                at = 6;
            } else if (at == 6) {
                if (c < '0' || c > '9') return p;
                open = withoutNots(open);
                at = 7;
            } else {
                if (c == '&' || c == '|') {
                    at = 4;
                } else if (c == ')' && open.endsWith("(")) {
                    open = withoutNots(open.substring(0, open.length() - 1));
                } else if (c == ';' && open.isEmpty() && lines < 6) {
                    lines++;
                    at = -1;
                } else {
                    return p;
                }
            }
        }
        return at == 7 && open.isEmpty() ? -1 : tape.length();
    }

    private static String withoutNots(String open) {
        String rest = open;
        while (rest.endsWith("!")) rest = rest.substring(0, rest.length() - 1);
        return rest;
    }

    int card(int kind, int v) {
        if (kind < 0 || kind > 6) return -1;
        if (v < 0 || v > 3) return -2;
        if (s.cards.size() == 8) return -4;
        String tape = s.tape;
        s.tape = "";
        int fault = cardFault(tape);
        if (fault >= 0) return -10 - fault;
        CardModel c = new CardModel();
        c.number = s.cards.size();
        c.kind = kind;
        c.v = v;
        for (String line : tape.split(";")) {
            c.digits.add(line.charAt(0) - '0');
            c.tests.add(line.substring(5));
        }
        s.cards.add(c);
        return c.number;
    }

    private boolean isCard(int card) {
        return card >= 0 && card < s.cards.size();
    }

    private boolean isReach(int reach) {
        return reach >= 0 && reach < s.reaches;
    }

    int told(int card, int what) {
        if (!isCard(card) || what < 0 || what > 2) return -1;
        CardModel c = s.cards.get(card);
        return new int[] {c.kind, c.v, c.digits.size()}[what];
    }

    int hang(int reach, int card) {
        if (!isReach(reach) || card != -1 && !isCard(card)) return -1;
        CardModel before = s.hung[reach];
        s.hung[reach] = card == -1 ? null : s.cards.get(card);
        return before == null ? -5 : before.number;
    }

    // ---- reaches, hours

    int of(int reach, int what) {
        if (!isReach(reach) || what < 0 || what > 4) return -1;
        return new int[][] {s.level, s.bank, s.mill, s.boards, s.way}[what][reach];
    }

    int stream(int what) {
        if (what < 0 || what > 4) return -1;
        if (s.reaches == 0) return -3;
        return new int[] {s.span, s.sum, s.odds, s.hour, rings(s) ? 1 : 0}[what];
    }

    int level(int reach, int n) {
        if (!isReach(reach)) return -1;
        if (n < 0 || n > s.bank[reach]) return -2;
        int before = s.level[reach];
        s.level[reach] = n;
        s.way[reach] = 1;
        return before;
    }

    private static boolean rings(State t) {
        return !t.bellBroken && t.level[0] == t.bank[0];
    }

    /** Where the first sign stands that is in no bracket, or -1. */
    private static int outside(String e, char sign) {
        int deep = 0;
        for (int k = 0; k < e.length(); k++) {
            char c = e.charAt(k);
            if (c == '(') deep++;
            if (c == ')') deep--;
            if (c == sign && deep == 0) return k;
        }
        return -1;
    }

    private static boolean is(String e, State t, int i) {
        int or = outside(e, '|');
        if (or >= 0) return is(e.substring(0, or), t, i) || is(e.substring(or + 1), t, i);
        int and = outside(e, '&');
        if (and >= 0) return is(e.substring(0, and), t, i) && is(e.substring(and + 1), t, i);
        if (e.startsWith("!")) return !is(e.substring(1), t, i);
        if (e.startsWith("(")) return is(e.substring(1, e.length() - 1), t, i);
        int seen;
        switch (e.charAt(0)) {
            case 'l': seen = t.level[i]; break;
            case 'h': seen = t.hour; break;
            case 'w': seen = t.way[i]; break;
            default: seen = rings(t) ? 1 : 0;
        }
        int digit = e.charAt(2) - '0';
        return e.charAt(1) == '<' ? seen < digit : e.charAt(1) == '=' ? seen == digit : seen > digit;
    }

    private static int asLevel(CardModel c, State t, int i) {
        for (int k = 0; k < c.digits.size(); k++) if (is(c.tests.get(k), t, i)) return c.digits.get(k);
        return c.v;
    }

    private static int asRising(CardModel c, State t, int i) {
        int b = asLevel(c, t, i);
        return t.way[i] == 2 && b < 3 ? b + 1 : b;
    }

    private static int asTold(CardModel c, State t) {
        return c.digits.isEmpty() ? c.v : c.digits.get(t.hour % c.digits.size());
    }

    private static int boardsOf(State t, int i) {
        CardModel c = t.hung[i];
        int were = t.boards[i];
        if (c == null || (t.asleep & 1 << i) != 0) return were;
        switch (c.kind) {
            case 0: return c.v;
            case 1: return asLevel(c, t, i);
            case 2: return asRising(c, t, i);
            case 3:
                int to = asRising(c, t, i);
                return to > were ? were + 1 : to < were ? were - 1 : were;
            case 4: return rings(t) ? 3 : asLevel(c, t, i);
            case 5: return asTold(c, t);
            default: return t.hour % 2 == 0 ? asTold(c, t) : were;
        }
    }

    int boards(int reach) {
        return isReach(reach) ? boardsOf(s, reach) : -1;
    }

    /** An hour goes by in a state: the reaches that went over. */
    private static int goOn(State t, int rain) {
        int r = t.reaches;
        int[] set = new int[r], out = new int[r], before = t.level.clone();
        for (int i = 0; i < r; i++) set[i] = boardsOf(t, i);
        for (int i = 0; i < r; i++) out[i] = Math.min(before[i], set[i]);
        int over = 0;
        for (int i = 0; i < r; i++) {
            int to = before[i] - out[i] + (i > 0 ? out[i - 1] : 0) + (rain >> i) % 2;
            if (to > t.bank[i]) {
                over += 1 << i;
                to = t.bank[i];
            }
            t.level[i] = to;
            t.way[i] = to < before[i] ? 0 : to == before[i] ? 1 : 2;
            t.boards[i] = set[i];
        }
        t.hour++;
        return over;
    }

    int hour(int rain) {
        if (rain < 0 || rain > 7) return -2;
        if (s.reaches == 0 || s.hour == 99) return -3;
        return goOn(s, rain);
    }

    // ---- rains

    int rain(int reaches) {
        if (reaches < -1 || reaches > 7) return -2;
        if (reaches == -1) {
            s.rain.clear();
            return 0;
        }
        if (s.rain.size() == 10) return -4;
        s.rain.add(reaches);
        return s.rain.size();
    }

    private static int firstOf(int bits) {
        for (int i = 0; i < 3; i++) if ((bits & 1 << i) != 0) return i;
        throw new IllegalStateException();
    }

    private static int dry(State t) {
        int bits = 0;
        for (int i = 0; i < t.reaches; i++) if (t.level[i] < t.mill[i]) bits += 1 << i;
        return bits;
    }

    int run(int what) {
        if (what < 0 || what > 2) return -1;
        if (s.reaches == 0) return -3;
        State t = s.copy();
        int over = -5, dry = -5;
        for (int k = 0; k < s.rain.size(); k++) {
            int bits = goOn(t, s.rain.get(k));
            if (over == -5 && bits != 0) over = 10 * k + firstOf(bits);
            if (dry == -5 && dry(t) != 0) dry = 10 * k + firstOf(dry(t));
        }
        int made = 0;
        for (int l : t.level) made += l;
        return new int[] {over, dry, made}[what];
    }

    /** All rows of so many hours, in their order, with at most so much rain. */
    private static List<int[]> rows(int reaches, int hours, int sum) {
        List<int[]> all = new ArrayList<>();
        int base = 1 << reaches, many = 1;
        for (int h = 0; h < hours; h++) many *= base;
        for (int n = 0; n < many; n++) {
            int[] row = new int[hours];
            int rest = n, fallen = 0;
            for (int h = hours - 1; h >= 0; h--) {
                row[h] = rest % base;
                rest /= base;
                fallen += Integer.bitCount(row[h]);
            }
            if (fallen <= sum) all.add(row);
        }
        return all;
    }

    private static boolean over(State from, int[] row) {
        State t = from.copy();
        int bits = 0;
        for (int rain : row) bits |= goOn(t, rain);
        return bits != 0;
    }

    private static boolean hold(State t) {
        for (int[] row : rows(t.reaches, t.span, t.sum)) if (over(t, row)) return false;
        return true;
    }

    int holds() {
        return s.reaches == 0 ? -3 : hold(s) ? 1 : 0;
    }

    int fails(int i) {
        if (i < -1 || i > 2) return -1;
        if (s.reaches == 0) return -3;
        for (int hours = 1; hours <= s.span; hours++) {
            for (int[] row : rows(s.reaches, hours, s.sum)) {
                if (over(s, row)) return i == -1 ? hours : i < hours ? row[i] : -5;
            }
        }
        return -5;
    }

    // ---- what holds

    int fixed(int i) {
        if (i != -1 && !isReach(i)) return -1;
        if (s.reaches == 0) return -3;
        int count = 0;
        int[] first = null;
        int r = s.reaches;
        for (int a = 0; a < 4; a++) for (int b = 0; b < (r > 1 ? 4 : 1); b++) for (int c = 0; c < (r > 2 ? 4 : 1); c++) {
            State t = s.copy();
            int[] row = {a, b, c};
            for (int k = 0; k < r; k++) {
                t.boards[k] = row[k];
                t.hung[k] = null;
            }
            if (hold(t)) {
                count++;
                if (first == null) first = row;
            }
        }
        return i == -1 ? count : first == null ? -5 : first[i];
    }

    /** The state with a card changed wherever it hangs. */
    private State with(CardModel old, CardModel changed) {
        State t = s.copy();
        for (int i = 0; i < t.reaches; i++) if (t.hung[i] == old) t.hung[i] = changed;
        return t;
    }

    int found(int reach) {
        if (!isReach(reach)) return -1;
        CardModel c = s.hung[reach];
        if (c == null) return -5;
        for (int v = 0; v < 4; v++) {
            CardModel other = c.copy();
            other.v = v;
            if (hold(with(c, other))) return v;
        }
        return -5;
    }

    int lines(int card) {
        if (!isCard(card)) return -1;
        if (s.reaches == 0) return -3;
        if (!hold(s)) return 0;
        CardModel c = s.cards.get(card);
        int bits = 0;
        for (int k = 0; k < c.digits.size(); k++) {
            CardModel other = c.copy();
            other.digits.remove(k);
            other.tests.remove(k);
            if (!hold(with(c, other))) bits += 1 << k;
        }
        return bits;
    }

    private boolean holdAsleep(int set) {
        State t = s.copy();
        t.asleep = set;
        return hold(t);
    }

    int drunk(int what) {
        if (what < 0 || what > 1) return -1;
        if (s.reaches == 0) return -3;
        if (what == 0) {
            int bits = 0;
            for (int i = 0; i < s.reaches; i++) if (holdAsleep(1 << i)) bits += 1 << i;
            return bits;
        }
        for (int size = s.reaches; size >= 0; size--) {
            for (int set = 0; set < 1 << s.reaches; set++) {
                if (Integer.bitCount(set) == size && holdAsleep(set)) return set;
            }
        }
        return -5;
    }

    int raised() {
        if (s.reaches == 0) return -3;
        for (int more = 0; more <= 9; more++) {
            State t = s.copy();
            for (int i = 0; i < t.reaches; i++) t.bank[i] = Math.min(9, s.bank[i] + more);
            if (hold(t)) return more;
        }
        return -5;
    }

    long mean(int n, int what, int part) {
        if (n < 1 || n > 3 || what < 0 || what > 1 || part < 0 || part > 1 || s.reaches == 0) return Long.MIN_VALUE;
        BigInteger above = BigInteger.ZERO, below = BigInteger.TEN.pow(n * s.reaches);
        for (int[] row : rows(s.reaches, n, 99)) {
            State t = s.copy();
            boolean comes = false;
            BigInteger weight = BigInteger.ONE;
            for (int rain : row) {
                int over = goOn(t, rain);
                if (what == 0 ? over != 0 : dry(t) != 0) comes = true;
                for (int i = 0; i < s.reaches; i++) {
                    weight = weight.multiply(BigInteger.valueOf((rain & 1 << i) != 0 ? s.odds : 10 - s.odds));
                }
            }
            if (comes) above = above.add(weight);
        }
        BigInteger common = above.gcd(below);
        return (part == 0 ? above : below).divide(common).longValueExact();
    }

    int same(int what) {
        if (what < 0 || what > 1) return -1;
        if (s.reaches == 0) return -3;
        if (what == 0) {
            int bits = 0;
            for (CardModel c : s.cards) {
                State t = s.copy();
                for (int i = 0; i < t.reaches; i++) t.hung[i] = c;
                if (hold(t)) bits += 1 << c.number;
            }
            return bits;
        }
        if (!hold(s)) return -5;
        State t = s.copy();
        t.bellBroken = true;
        return hold(t) ? 0 : 1;
    }

    // ---- acts, the image

    private Kind0 bodies(CardModel c) {
        switch (c.kind) {
            case 0: return new Kind0(c, trace);
            case 1: return new Kind1(c, trace);
            case 2: return new Kind2(c, trace);
            case 3: return new Kind3(c, trace);
            case 4: return new Kind4(c, trace);
            case 5: return new Kind5(c, trace);
            default: return new Kind6(c, trace);
        }
    }

    int act(int card, int act, int x) {
        trace.clear();
        if (!isCard(card) || act < 0 || act > 2) return 0;
        Kind0 k = bodies(s.cards.get(card));
        return act == 0 ? k.sees(x) : act == 1 ? k.sets(x) : k.wakes(x);
    }

    int trace(int i) {
        return i < 0 || i >= trace.size() || i >= 20 ? -1 : trace.get(i);
    }

    int as(int card, int k) {
        if (!isCard(card) || k < 0 || k > 6) return -1;
        CardModel c = s.cards.get(card);
        Kind0 it = bodies(c);
        Class<?>[] kinds = {Kind0.class, Kind1.class, Kind2.class, Kind3.class, Kind4.class, Kind5.class, Kind6.class};
        return kinds[k].isInstance(it) ? c.v : -6;
    }

    int image() {
        image = s.copy();
        return s.cards.size();
    }

    int undo() {
        if (image == null) return -3;
        s = image.copy();
        return s.cards.size();
    }

    int count(int what) {
        if (what < 0 || what > 4) return -1;
        return new int[] {s.reaches, s.cards.size(), s.rain.size(), s.tape.length(), trace.size()}[what];
    }

    static class Kind0 {
        final int i, v;
        final List<Integer> trace;

        Kind0(CardModel c, List<Integer> trace) {
            i = c.number;
            v = c.v;
            this.trace = trace;
        }

        int sees(int x) {
            trace.add(1);
            return x + i;
        }

        int sets(int x) {
            trace.add(2);
            return sees(x) - v;
        }

        int wakes(int x) {
            trace.add(3);
            return sets(x) * 2;
        }
    }

    static class Kind1 extends Kind0 {
        Kind1(CardModel c, List<Integer> trace) {
            super(c, trace);
        }

        @Override int sees(int x) {
            trace.add(11);
            return super.sees(x * 3);
        }
    }

    static class Kind2 extends Kind1 {
        Kind2(CardModel c, List<Integer> trace) {
            super(c, trace);
        }

        @Override int sets(int x) {
            trace.add(21);
            return -super.sets(x);
        }
    }

    static class Kind3 extends Kind2 {
        Kind3(CardModel c, List<Integer> trace) {
            super(c, trace);
        }

        @Override int wakes(int x) {
            trace.add(41);
            return super.wakes(x - 1) + sees(2);
        }
    }

    static class Kind4 extends Kind1 {
        Kind4(CardModel c, List<Integer> trace) {
            super(c, trace);
        }

        @Override int sees(int x) {
            trace.add(51);
            return super.sees(x) ^ i;
        }
    }

    static class Kind5 extends Kind0 {
        Kind5(CardModel c, List<Integer> trace) {
            super(c, trace);
        }

        @Override int wakes(int x) {
            trace.add(31);
            return super.wakes(x) ^ 7;
        }
    }

    static class Kind6 extends Kind5 {
        Kind6(CardModel c, List<Integer> trace) {
            super(c, trace);
        }

        @Override int sets(int x) {
            trace.add(61);
            return super.sets(x) + v;
        }
    }
}
