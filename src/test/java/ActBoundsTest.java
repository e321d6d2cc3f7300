/** Promises 23 to 28 and what Terms 2 says of ACTS, THE TRACE and THE IMAGE: each sentence that names a bound. */
public final class ActBoundsTest {
    private static final Check check = new Check();
    private static final String LINE = "1 if l=1";
    private static final int[] FAR = {-100, 100, Integer.MIN_VALUE, Integer.MIN_VALUE + 1, Integer.MAX_VALUE};

    public static void main(String[] args) {
        acts();
        actRefused();
        trace();
        traceOfTheLatest();
        as();
        image();
        undo();
        counts();
        theLastCall();
        check.end("ActBoundsTest");
    }

    private static SluiceCards cards(int many, int kind) {
        SluiceCards x = new SluiceCards();
        for (int k = 0; k < many; k++) Check.card(x, kind < 0 ? k % 7 : kind, k % 4, LINE);
        return x;
    }

    // ---- ACTS

    /** What an act answers, worked out in numbers that don't wrap before the end. */
    private static int answer(int kind, int act, long x, long i, long v) {
        long sees = kind == 0 || kind >= 5 ? x + i : 3 * x + i;
        if (kind == 4) sees = (int) sees ^ i;
        if (act == 0) return (int) sees;
        long sets = kind == 2 || kind == 3 ? v - sees : kind == 6 ? sees : sees - v;
        if (act == 1) return (int) sets;
        if (kind == 3) return (int) (2 * (v - 3 * (x - 1) - i) + 6 + i);
        return kind >= 5 ? (int) (2 * sets) ^ 7 : (int) (2 * sets);
    }

    private static void acts() {
        check.about("ACTS of a CARD with x (ints, wrapping); i its number");
        int[] xs = {Integer.MIN_VALUE, Integer.MIN_VALUE + 1, -1073741825, -1073741824, -715827883, -715827882, -1, 0, 1, 2, 715827882, 715827883, 1073741823, 1073741824,
            Integer.MAX_VALUE - 8, Integer.MAX_VALUE - 1, Integer.MAX_VALUE};
        for (int kind = 0; kind <= 6; kind++) {
            SluiceCards x = cards(8, kind);
            for (int card = 0; card < 8; card++) {
                for (int act = 0; act <= 2; act++) {
                    for (int each : xs) check.due("KIND " + kind + ": act(" + card + ", " + act + ", " + each + ")", x.act(card, act, each), answer(kind, act, each, card, card % 4));
                }
            }
        }
        check.about("ACTS .. wrapping, by hand");
        SluiceCards x = cards(7, -1);
        int max = Integer.MAX_VALUE, min = Integer.MIN_VALUE;
        check.due("x + i", x.act(5, 0, max), min + 4);
        check.due("sees(x) - v", x.act(3, 1, min), min + 0);
        check.due("sets(x) * 2", x.act(0, 2, max), -2);
        check.due("x * 3", x.act(1, 0, min), min + 1);
        check.due("x - 1", x.act(3, 2, min), 3 * 2 + 6 + 3);
        check.due("^ 7", x.act(5, 2, max), (2 * (max + 4)) ^ 7);
    }

    private static void actRefused() {
        check.about("act: 0, and no TRACE then: no such CARD, act");
        int[] badCards = {-1, -2, 7, 8, 9}, badActs = {-1, -2, 3, 4};
        SluiceCards x = cards(7, -1);
        for (int card : badCards) for (int act = 0; act <= 2; act++) refused(x, card, act);
        for (int card : FAR) refused(x, card, 0);
        for (int act : badActs) refused(x, 3, act);
        for (int act : FAR) refused(x, 3, act);
        refused(x, -1, -1);
        refused(x, 7, 3);
        SluiceCards none = new SluiceCards();
        check.due("act(0, 0, 5) without cards", none.act(0, 0, 5), 0);
        check.due("count(4)", none.count(4), 0);
    }

    /** Behind an act with a trace of one body the refused one leaves none. */
    private static void refused(SluiceCards x, int card, int act) {
        String call = "act(" + card + ", " + act + ", 5)";
        check.due("act(0, 0, 5)", x.act(0, 0, 5), 5);
        check.due(call, x.act(card, act, 5), 0);
        check.due("count(4) behind " + call, x.count(4), 0);
        check.due("trace(0) behind " + call, x.trace(0), -1);
    }

    // ---- THE TRACE

    private static void trace() {
        check.about("THE TRACE: the numbers of the bodies that ran in the latest act(), as they began; the first 20 are kept");
        SluiceCards x = cards(7, -1);
        for (int i = -1; i <= 22; i++) check.due("at first: trace(" + i + ")", x.trace(i), -1);
        // the longest act there is: SLOW wakes; the document's acts never come near 20 bodies
        x.act(3, 2, 1);
        int[] bodies = {41, 3, 21, 2, 11, 1, 11, 1};
        check.due("count(4)", x.count(4), 8);
        for (int i = 0; i < 8; i++) check.due("trace(" + i + ")", x.trace(i), bodies[i]);
        int[] outside = {-1, -2, 8, 9, 18, 19, 20, 21, 22};
        for (int i : outside) check.due("trace(" + i + ")", x.trace(i), -1);
        for (int i : FAR) check.due("trace(" + i + ")", x.trace(i), -1);
        int most = 0;
        for (int card = 0; card < 7; card++) {
            for (int act = 0; act <= 2; act++) {
                x.act(card, act, 1);
                most = Math.max(most, x.count(4));
            }
        }
        check.due("the most bodies of an act", most, 8);
    }

    private static void traceOfTheLatest() {
        check.about("THE TRACE: .. the latest act()");
        SluiceCards x = cards(7, -1);
        x.act(3, 2, 1);
        x.act(0, 1, 1);
        check.due("count(4)", x.count(4), 2);
        check.due("trace(0)", x.trace(0), 2);
        check.due("trace(1)", x.trace(1), 1);
        check.due("trace(2): what ran before is gone", x.trace(2), -1);
        Check.river(x, "reach 4 1 2");
        Check.feed(x, "x");
        x.card(0, 0);
        x.hour(0);
        x.image();
        x.undo();
        check.due("what isn't an act leaves it: count(4)", x.count(4), 2);
        check.due("trace(0)", x.trace(0), 2);
    }

    // ---- as

    private static void as() {
        check.about("A CARD taken for a KIND k (0 .. 6), or one under that: its v. NONE: card, k; -6: it is of another KIND");
        int[][] under = {{0}, {0, 1}, {0, 1, 2}, {0, 1, 2, 3}, {0, 1, 4}, {0, 5}, {0, 5, 6}};
        SluiceCards x = cards(7, -1);
        for (int card = 0; card < 7; card++) {
            int[] due = {-6, -6, -6, -6, -6, -6, -6};
            for (int k : under[card]) due[k] = card % 4;
            for (int k = 0; k <= 6; k++) check.due("as(" + card + ", " + k + ")", x.as(card, k), due[k]);
            check.due("as(" + card + ", -1)", x.as(card, -1), -1);
            check.due("as(" + card + ", 7)", x.as(card, 7), -1);
            for (int far : FAR) check.due("as(" + card + ", " + far + ")", x.as(card, far), -1);
        }
        int[] outside = {-1, -2, 7, 8};
        for (int card : outside) {
            for (int k = -1; k <= 7; k++) check.due("as(" + card + ", " + k + ")", x.as(card, k), -1);
        }
        for (int far : FAR) check.due("as(" + far + ", 0)", x.as(far, 0), -1);
        check.due("as(0, 0) without cards", new SluiceCards().as(0, 0), -1);
    }

    // ---- THE IMAGE

    private static void image() {
        check.about("THE IMAGE is taken: how many CARDS there are");
        for (int many = 0; many <= 8; many++) check.due("image() of " + many, cards(many, 1).image(), many);
        SluiceCards x = full(), twin = full();
        x.image();
        check.dueRow("nothing is changed by it", Look.at(x), Look.at(twin));
        check.about("THE IMAGE, taken twice: the newest");
        SluiceCards y = cards(1, 0);
        check.due("image()", y.image(), 1);
        Check.card(y, 1, 3, LINE);
        check.due("image() again", y.image(), 2);
        Check.card(y, 2, 0, LINE);
        check.due("undo()", y.undo(), 2);
        check.due("told(1, 1)", y.told(1, 1), 3);
        check.due("told(2, 1)", y.told(2, 1), -1);
    }

    /** All that there is at its most: a full tape, eight cards, three reaches at HOUR 99, ten hours of rain told. */
    private static SluiceCards full() {
        SluiceCards x = cards(8, -1);
        Check.river(x, "span 2;sum 3;odds 4;reach 9 1 9;reach 9 2 8;reach 9 3 7");
        for (int reach = 0; reach < 3; reach++) x.hang(reach, reach + 2);
        for (int k = 0; k < 99; k++) x.hour(k & 7);
        for (int k = 0; k < 10; k++) x.rain(k & 7);
        Check.feed(x, Check.times(LINE + "&", 13) + "l=1");
        return x;
    }

    private static void undo() {
        undoWithout();
        undoTwice();
        undoToTheMost();
        undoToNothing();
        undoTapeAndRain();
    }

    private static void undoWithout() {
        check.about("undo: STATE: there is none");
        SluiceCards x = full(), twin = full();
        check.due("undo()", x.undo(), -3);
        check.due("undo() again", x.undo(), -3);
        check.dueRow("nothing is changed by it", Look.into(x), Look.into(twin));
        check.due("undo() of nothing", new SluiceCards().undo(), -3);
    }

    private static void undoTwice() {
        check.about("All is as THE IMAGE: how many CARDS; gone back to twice");
        SluiceCards x = new SluiceCards();
        Check.river(x, "reach 9 0 5;reach 9 0 5");
        Check.card(x, 0, 1, LINE);
        x.hang(0, 0);
        x.image();
        long[] before = Look.at(x);
        for (int k = 0; k < 2; k++) {
            x.hour(3);
            x.level(1, 0);
            x.hang(0, -1);
            x.rain(k);
            Check.card(x, 5, 2, LINE);
            Check.feed(x, "1 if");
            check.due("undo()", x.undo(), 1);
            check.dueRow("all as it was", Look.at(x), before);
        }
        check.due("undo() at once again", x.undo(), 1);
        check.due("what hangs", x.hang(0, -1), 0);
        check.due("undo()", x.undo(), 1);
        check.due("what hangs", x.hang(0, -1), 0);
    }

    private static void undoToTheMost() {
        check.about("THE IMAGE: all that there is");
        SluiceCards x = full(), twin = full();
        x.image();
        x.rain(-1);
        x.card(0, 0);
        x.river();
        Check.river(x, "reach 1 1 1");
        check.due("undo()", x.undo(), 8);
        x.image();
        twin.image();
        check.dueRow("all as it was", Look.into(x), Look.into(twin));
    }

    private static void undoToNothing() {
        check.about("THE IMAGE: all that there is: nothing");
        SluiceCards x = new SluiceCards();
        check.due("image()", x.image(), 0);
        for (int k = 0; k < 8; k++) Check.card(x, 1, 1, LINE);
        Check.river(x, "reach 9 0 5");
        x.rain(1);
        Check.feed(x, "x");
        x.hang(0, 7);
        check.due("undo()", x.undo(), 0);
        check.dueRow("all as at first", Look.at(x), Look.at(new SluiceCards()));
        check.due("cards from 0 on", Check.card(x, 0, 2, LINE), 0);
        check.due("a river again", Check.river(x, "reach 9 0 5"), 1);
        check.due("no CARD hangs", x.hang(0, 0), -5);
        check.due("boards(0)", x.boards(0), 2);
    }

    private static void undoTapeAndRain() {
        check.about("THE IMAGE: all that there is: the bytes of THE TAPE, the RAIN told by hand");
        SluiceCards x = new SluiceCards();
        Check.river(x, "reach 9 0 0;reach 9 0 0;reach 9 0 0");
        Check.feed(x, "2 if l>");
        x.rain(7);
        x.rain(3);
        x.image();
        x.river();
        Check.feed(x, "xxxxxxxx");
        x.rain(-1);
        x.rain(0);
        x.rain(0);
        x.rain(0);
        check.due("undo()", x.undo(), 0);
        check.due("bytes of THE TAPE", x.count(3), 7);
        check.due("HOURS of RAIN", x.count(2), 2);
        check.due("what fell", x.run(2), 5);
        Check.feed(x, "5");
        check.due("its bytes", x.card(1, 0), 0);
        check.due("undo()", x.undo(), 0);
        check.due("bytes of THE TAPE", x.count(3), 7);
    }

    // ---- count

    private static void counts() {
        check.about("count: 0 REACHES, 1 CARDS, 2 HOURS of the RAIN told by hand, 3 bytes of THE TAPE, 4 bodies that ran in the latest act(). NONE");
        SluiceCards none = new SluiceCards(), x = full();
        x.act(3, 2, 1);
        int[] most = {3, 8, 10, 120, 8};
        for (int what = 0; what <= 4; what++) {
            check.due("at first: count(" + what + ")", none.count(what), 0);
            check.due("at most: count(" + what + ")", x.count(what), most[what]);
        }
        int[] outside = {-1, -2, 5, 6};
        for (SluiceCards each : new SluiceCards[] {none, x}) {
            for (int what : outside) check.due("count(" + what + ")", each.count(what), -1);
            for (int what : FAR) check.due("count(" + what + ")", each.count(what), -1);
        }
    }

    // ---- the 512th call

    private static void theLastCall() {
        check.about("An object is used for at most 512 calls after it has been made");
        SluiceCards x = new SluiceCards();
        check.due("image()", x.image(), 0);
        for (int round = 0; round < 20; round++) {
            for (int card = 0; card < 8; card++) {
                check.due("feed", x.feed(Check.word(LINE, 0, 8), 8), 8);
                check.due("card(0, 3)", x.card(0, 3), card);
                check.due("act(" + card + ", 1, 5)", x.act(card, 1, 5), 2 + card);
            }
            check.due("undo()", x.undo(), 0);
        }
        check.due("the 502nd", x.feed(0, 7), 7);
        int[] due = {0, 0, 0, 7, 2};
        for (int call = 503; call <= 512; call++) check.due("call " + call, x.count((call - 503) % 5), due[(call - 503) % 5]);
    }
}
