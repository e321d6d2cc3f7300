import java.util.Random;
import java.util.TreeMap;

/** Long runs of calls on the class and on the model side by side: each answer must be the same. */
public final class ModelTest {
    /** No step begins behind so many calls, so that none goes beyond an object's 512. */
    private static final int RUNS = 1400, CALLS = 340;
    private final Random dice;
    private final SluiceCards x = new SluiceCards();
    private final Model m = new Model();
    private final Check check;
    private final TreeMap<String, Integer> seen;

    private ModelTest(int seed, Check check, TreeMap<String, Integer> seen) {
        dice = new Random(seed);
        this.check = check;
        this.seen = seen;
        check.about("run " + seed);
    }

    public static void main(String[] args) {
        Check check = new Check();
        TreeMap<String, Integer> seen = new TreeMap<>();
        for (int seed = 0; seed < RUNS; seed++) {
            ModelTest test = new ModelTest(seed, check, seen);
            for (int k = test.start(); k < CALLS; ) k += test.step();
        }
        // The runs must have met what is rare, or they prove little.
        String[] rare = {"holds 1", "holds 0", "found 1", "found 2", "found 3", "lines 1", "lines 2", "same1 1", "same1 0",
            "sleep -5", "sleep 0", "sleep 3", "raised -5", "raised 2", "fails 1", "fails 2", "fails 3", "hour -3", "river -", "card -",
            "undo 3", "rain -4", "card -4", "feed -4"};
        for (String each : rare) {
            if (seen.getOrDefault(each, 0) < 3) check.due("how often the runs met " + each, seen.getOrDefault(each, 0), 3);
        }
        if (args.length > 1) System.out.println(seen);
        check.end("ModelTest");
    }

    private int die(int sides) {
        return dice.nextInt(sides);
    }

    private void same(String call, long got, long want) {
        check.due(call, got, want);
    }

    private void met(String what) {
        seen.merge(what, 1, Integer::sum);
    }

    private int feed(String text) {
        int calls = 0;
        for (int from = 0; from < text.length(); ) {
            int till = Math.min(text.length(), from + 1 + die(8));
            // What stands above the lowest bytes must not count.
            long w = Check.word(text, from, till) | (till - from < 8 ? dice.nextLong() << 8 * (till - from) : 0);
            int got = x.feed(w, till - from);
            same("feed " + text, got, m.feed(w, till - from));
            if (got == -4) met("feed -4");
            from = till;
            calls++;
        }
        return calls;
    }

    private String riverText() {
        StringBuilder b = new StringBuilder();
        int reaches = 1 + die(3), clauses = die(20) == 0 ? 12 : reaches + die(4);
        for (int k = 0; k < clauses; k++) {
            if (k > 0) b.append(';');
            if (k < reaches && die(8) > 0) b.append("reach ").append(3 + die(7)).append(' ').append(die(4)).append(' ').append(die(6));
            else b.append(new String[] {"span ", "sum ", "odds "}[die(3)]).append(die(die(2) == 0 ? 4 : 10));
        }
        return b.toString();
    }

    private String either(int open) {
        StringBuilder b = new StringBuilder(both(open));
        for (int k = die(4) - 2; k > 0; k--) b.append('|').append(both(open));
        return b.toString();
    }

    private String both(int open) {
        StringBuilder b = new StringBuilder(single(open));
        for (int k = die(4) - 2; k > 0; k--) b.append('&').append(single(open));
        return b.toString();
    }

    private String single(int open) {
        int kind = die(6);
        if (open < 5 && kind == 0) return "!" + single(open + 1);
        if (open < 5 && kind == 1 || open < 0) return "(" + either(open + 1) + ")";
        char what = "lllhwwc".charAt(die(7));
        return "" + what + "<=>".charAt(die(3)) + (what == 'l' ? die(8) : die(4));
    }

    private String cardText() {
        StringBuilder b = new StringBuilder();
        int lines = 1 + die(die(8) == 0 ? 7 : 4);
        for (int k = 0; k < lines; k++) {
            String line = die(4) + " if " + (die(3) == 0 ? "l>" + die(6) : either(die(30) == 0 ? -1 : 0));
            if (b.length() + 1 + line.length() > 120) break;
            if (k > 0) b.append(';');
            b.append(line);
        }
        return b.length() == 0 ? "1 if l>1" : b.toString();
    }

    /** Now and then a text is spoilt. */
    private String perhapsSpoilt(String text, int sides) {
        if (die(sides) > 0) return text;
        int at = die(text.length() + 1);
        String signs = "reachspnumod 0123456789;if!()&|lhwc<=>\0\u00ff";
        char sign = signs.charAt(die(signs.length()));
        if (die(3) == 0) return text.substring(0, at);
        if (die(2) == 0) return text.substring(0, at) + sign + text.substring(at);
        return text.substring(0, at) + sign + text.substring(Math.min(text.length(), at + 1));
    }

    private int makeRiver() {
        int calls = feed(perhapsSpoilt(riverText(), 4)) + 1;
        int got = x.river();
        same("river", got, m.river());
        if (got < 0) met("river -");
        return calls;
    }

    private int makeCard() {
        if (m.s.cards.size() == 8 && die(20) > 0) {
            same("undo", x.undo(), m.undo());
            return 1;
        }
        int calls = feed(perhapsSpoilt(cardText(), 6)) + 1;
        int kind = die(40) == 0 ? die(3) * 8 - 1 : die(7), v = die(40) == 0 ? 4 - 5 * die(2) : die(4);
        int got = x.card(kind, v);
        same("card", got, m.card(kind, v));
        if (got == -4) met("card -4");
        if (got < -9) met("card -");
        return calls;
    }

    /** A number that mostly is in its bounds. */
    private int near(int least, int most) {
        return die(25) == 0 ? new int[] {least - 1, most + 1, Integer.MIN_VALUE, Integer.MAX_VALUE, 100}[die(5)] : least + die(most - least + 1);
    }

    private int hangOrLevel() {
        int reach = near(0, Math.max(0, m.s.reaches - 1));
        if (die(3) > 0) {
            int card = near(-1, 7);
            same("hang", x.hang(reach, card), m.hang(reach, card));
        } else {
            int n = near(0, 9);
            same("level", x.level(reach, n), m.level(reach, n));
        }
        return 1;
    }

    private int goOn() {
        int got, rain;
        if (die(120) == 0) {
            int calls = 0;
            do {
                rain = die(8);
                got = x.hour(rain);
                same("hour", got, m.hour(rain));
                calls++;
            } while (got >= 0);
            met("hour " + got);
            return calls;
        }
        rain = near(0, 7);
        same("hour", x.hour(rain), m.hour(rain));
        return 1;
    }

    private int tellRain() {
        int rain = die(8) == 0 ? -1 : near(0, 7);
        int got = x.rain(rain);
        same("rain", got, m.rain(rain));
        if (got == -4) met("rain -4");
        return 1;
    }

    private int ask() {
        int i = near(0, 4), reach = near(0, Math.max(0, m.s.reaches - 1)), card = near(0, Math.max(0, m.s.cards.size() - 1)), got;
        if (m.s.reaches > 0 && die(2) == 0 && m.s.hung[die(m.s.reaches)] != null) {
            for (Model.CardModel hung : m.s.hung) if (hung != null) card = hung.number;
        }
        switch (die(24)) {
            case 0: same("told", x.told(card, i), m.told(card, i)); break;
            case 1: same("of", x.of(reach, i), m.of(reach, i)); break;
            case 2: same("stream", x.stream(i), m.stream(i)); break;
            case 3: same("boards", x.boards(reach), m.boards(reach)); break;
            case 4: case 5: same("run", x.run(i - 1), m.run(i - 1)); break;
            case 6: same("holds", got = x.holds(), m.holds()); met("holds " + got); break;
            case 7: same("fails", got = x.fails(-1), m.fails(-1)); met("fails " + got); break;
            case 8: same("fails", x.fails(i - 1), m.fails(i - 1)); break;
            case 9: same("fixed", x.fixed(i - 1), m.fixed(i - 1)); break;
            case 10: case 11: if (die(2) == 0) hangAll(); same("found", got = x.found(reach), m.found(reach)); met("found " + got); break;
            case 12: case 13: if (die(2) == 0) hangAll(); same("lines", got = x.lines(card), m.lines(card)); met("lines " + got); break;
            case 14: same("drunk", x.drunk(i - 1), m.drunk(i - 1)); break;
            case 15: same("sleep", got = x.drunk(1), m.drunk(1)); met("sleep " + got); break;
            case 16: same("raised", got = x.raised(), m.raised()); met("raised " + got); break;
            case 17: case 18: {
                int n = near(1, 3), what = near(0, 1), part = near(0, 1);
                same("mean", x.mean(n, what, part), m.mean(n, what, part));
                break;
            }
            case 19: same("same", x.same(i - 1), m.same(i - 1)); break;
            case 20: same("same", got = x.same(1), m.same(1)); met("same1 " + got); break;
            case 21: {
                int act = near(0, 2), n = die(2) == 0 ? dice.nextInt() : die(100);
                same("act", x.act(card, act, n), m.act(card, act, n));
                break;
            }
            case 22: same("trace", x.trace(reach), m.trace(reach)); break;
            default: same("as", x.as(card, i), m.as(card, i));
        }
        return 1;
    }

    /** Every reach has a card: the later ones, which have the greater kinds as often as not. */
    private void hangAll() {
        for (int reach = 0; reach < m.s.reaches; reach++) {
            int card = m.s.cards.isEmpty() ? -1 : die(m.s.cards.size());
            same("hang", x.hang(reach, card), m.hang(reach, card));
        }
    }

    private int lookAtAll() {
        for (int what = -1; what < 6; what++) {
            same("count", x.count(what), m.count(what));
            same("stream", x.stream(what), m.stream(what));
            for (int reach = -1; reach < 4; reach++) same("of", x.of(reach, what), m.of(reach, what));
        }
        for (int i = -1; i < 22; i++) same("trace", x.trace(i), m.trace(i));
        for (int card = -1; card < 9; card++) {
            for (int k = -1; k < 8; k++) same("as", x.as(card, k), m.as(card, k));
        }
        return 162;
    }

    /** Most runs begin with a river and an image, so that there is something to come back to. */
    private int start() {
        if (die(8) == 0) return 0;
        int calls = makeRiver();
        same("image", x.image(), m.image());
        return calls + 1;
    }

    private int step() {
        switch (die(30)) {
            case 0: return m.s.reaches == 0 || die(3) == 0 ? makeRiver() : 1;
            case 1: case 2: return makeCard();
            case 3: case 4: case 5: return hangOrLevel();
            case 6: case 7: return goOn();
            case 8: return tellRain();
            case 9: return die(25) == 0 ? lookAtAll() : 1;
            case 10:
                if (die(4) > 0) return 1;
                int got = die(2) == 0 ? x.undo() : -9;
                if (got != -9) {
                    same("undo", got, m.undo());
                    met("undo " + got);
                } else {
                    same("image", x.image(), m.image());
                }
                return 1;
            case 11: return die(10) == 0 ? feed("reach 4 1 2 and so on".substring(0, 1 + die(20))) : 1;
            default: return ask();
        }
    }
}
