import java.util.function.Supplier;
import java.util.function.ToLongFunction;

/** Terms 3, REFUSALS: each call with each number below, above and far outside of what is told, in each state; of several the
 *  first one told; and that a refused call changes nothing. */
public final class RefusalsTest {
    private static final Check check = new Check();
    private static final long NONE = -1, BAD = -2, STATE = -3, FULL = -4, NO = Long.MIN_VALUE;
    private static final String LINE = "1 if l=1";
    private static final int[] FAR = {-100, -6, -5, -4, -3, 121, 512, 1 << 16, 1 << 30, 1 << 31, -(1 << 30), Integer.MIN_VALUE + 1, Integer.MAX_VALUE, Integer.MAX_VALUE - 1};

    public static void main(String[] args) {
        withoutARiver();
        withoutACard();
        ofARiver();
        atTheLastHour();
        whereAllIsFull();
        check.end("RefusalsTest");
    }

    /** A call in a state: its answer, and that all is as on a twin without the call. */
    private static void refuse(Supplier<SluiceCards> state, String call, long due, ToLongFunction<SluiceCards> calls) {
        SluiceCards x = state.get(), twin = state.get();
        check.due(call, calls.applyAsLong(x), due);
        check.due(call + " again", calls.applyAsLong(x), due);
        check.dueRow(call + " changes nothing", Look.into(x), Look.into(twin));
    }

    /** Numbers one below and one above what is told, and far outside. */
    private static int[] outside(int least, int most) {
        int[] all = new int[FAR.length + 2];
        int n = 0;
        all[n++] = least - 1;
        all[n++] = most + 1;
        for (int far : FAR) if (far < least || far > most) all[n++] = far;
        return java.util.Arrays.copyOf(all, n);
    }

    // ---- the states

    private static SluiceCards noRiver() {
        SluiceCards x = new SluiceCards();
        for (int k = 0; k < 3; k++) Check.card(x, 1 + k, k, LINE);
        x.rain(5);
        x.image();
        x.act(2, 2, 3);
        Check.feed(x, "reach 4 1 2");
        return x;
    }

    private static SluiceCards noCard() {
        SluiceCards x = new SluiceCards();
        Check.river(x, "span 2;sum 3;odds 4;reach 5 1 4;reach 6 2 5");
        x.rain(5);
        x.image();
        x.hour(2);
        Check.feed(x, "reach 4 1 2");
        return x;
    }

    /** Two reaches, three cards of which two hang, all under way. */
    private static SluiceCards underWay() {
        SluiceCards x = noCard();
        x.river();
        Check.river(x, "span 3;sum 5;odds 4;reach 5 2 4;reach 6 2 3");
        Check.card(x, 1, 1, "2 if l>3;1 if w=2;0 if h=1");
        Check.card(x, 3, 0, "3 if l>4|c=1");
        Check.card(x, 6, 2, "1 if l=0;2 if l=0");
        x.hang(0, 0);
        x.hang(1, 1);
        x.rain(3);
        x.hour(1);
        x.image();
        x.hour(2);
        x.act(1, 2, 9);
        Check.feed(x, "reach 7 1 6");
        return x;
    }

    private static SluiceCards last() {
        SluiceCards x = underWay();
        for (int k = 2; k < 99; k++) x.hour(k & 3);
        return x;
    }

    /** Eight cards, ten hours of rain told, a tape of 120 bytes: a river and what no river goes on with. */
    private static SluiceCards full() {
        SluiceCards x = new SluiceCards();
        Check.river(x, "reach 5 2 4;reach 6 2 3;reach 7 3 3");
        for (int k = 0; k < 8; k++) Check.card(x, k % 7, k % 4, LINE);
        for (int k = 0; k < 10; k++) x.rain(k & 7);
        for (int k = 0; k < 3; k++) x.hang(k, 5 + k);
        x.image();
        Check.feed(x, "reach 4 1 2" + Check.times(";sum 1", 11) + Check.times("x", 43));
        return x;
    }

    // ---- what is refused

    private static void withoutARiver() {
        check.about("STATE there is no RIVER; NONE .. (of a REACH: without a RIVER, too)");
        Supplier<SluiceCards> state = RefusalsTest::noRiver;
        int[] reaches = {-1, 0, 1, 2, 3, Integer.MIN_VALUE, Integer.MAX_VALUE};
        for (int reach : reaches) {
            refuse(state, "hang(" + reach + ", 0)", NONE, x -> x.hang(reach, 0));
            refuse(state, "hang(" + reach + ", -1)", NONE, x -> x.hang(reach, -1));
            refuse(state, "of(" + reach + ", 0)", NONE, x -> x.of(reach, 0));
            refuse(state, "level(" + reach + ", 0)", NONE, x -> x.level(reach, 0));
            refuse(state, "level(" + reach + ", -1)", NONE, x -> x.level(reach, -1));
            refuse(state, "boards(" + reach + ")", NONE, x -> x.boards(reach));
            refuse(state, "found(" + reach + ")", NONE, x -> x.found(reach));
            if (reach != -1) refuse(state, "fixed(" + reach + ")", NONE, x -> x.fixed(reach));
        }
        refuse(state, "fixed(-1)", STATE, x -> x.fixed(-1));
        for (int what = 0; what <= 4; what++) {
            int w = what;
            refuse(state, "stream(" + w + ")", STATE, x -> x.stream(w));
            if (w <= 2) refuse(state, "run(" + w + ")", STATE, x -> x.run(w));
            if (w <= 1) refuse(state, "drunk(" + w + ")", STATE, x -> x.drunk(w));
            if (w <= 1) refuse(state, "same(" + w + ")", STATE, x -> x.same(w));
            if (w <= 3) refuse(state, "fails(" + (w - 1) + ")", STATE, x -> x.fails(w - 1));
            if (w <= 2) refuse(state, "lines(" + w + ")", STATE, x -> x.lines(w));
            if (w <= 2) refuse(state, "mean(" + (w + 1) + ", 0, 0)", NO, x -> x.mean(w + 1, 0, 0));
        }
        for (int rain = 0; rain <= 7; rain++) {
            int r = rain;
            refuse(state, "hour(" + r + ")", STATE, x -> x.hour(r));
        }
        refuse(state, "holds()", STATE, x -> x.holds());
        refuse(state, "raised()", STATE, x -> x.raised());
        numbers(state, 0, 3);
    }

    private static void withoutACard() {
        check.about("NONE there is no such .. CARD");
        Supplier<SluiceCards> state = RefusalsTest::noCard;
        int[] cards = {0, 1, 7, 8, -2, Integer.MIN_VALUE, Integer.MAX_VALUE};
        for (int card : cards) {
            refuse(state, "told(" + card + ", 0)", NONE, x -> x.told(card, 0));
            refuse(state, "hang(0, " + card + ")", NONE, x -> x.hang(0, card));
            refuse(state, "lines(" + card + ")", NONE, x -> x.lines(card));
            refuse(state, "as(" + card + ", 0)", NONE, x -> x.as(card, 0));
            refuse(state, "act(" + card + ", 0, 7)", 0, x -> x.act(card, 0, 7));
        }
        refuse(state, "found(0)", -5, x -> x.found(0));
        numbers(state, 2, 0);
    }

    private static void ofARiver() {
        check.about("NONE, BAD: one below, one above, far outside; they change nothing");
        numbers(RefusalsTest::underWay, 2, 3);
    }

    private static void atTheLastHour() {
        check.about("hour: STATE: also at HOUR 99");
        Supplier<SluiceCards> state = RefusalsTest::last;
        for (int rain = 0; rain <= 7; rain++) {
            int r = rain;
            refuse(state, "hour(" + r + ")", STATE, x -> x.hour(r));
        }
        int[] bad = {-1, 8};
        for (int r : bad) refuse(state, "hour(" + r + ")", BAD, x -> x.hour(r));
    }

    private static void whereAllIsFull() {
        check.about("FULL; NONE and BAD ahead of it");
        Supplier<SluiceCards> state = RefusalsTest::full;
        for (int n = 1; n <= 8; n++) {
            int many = n;
            refuse(state, "feed(7, " + many + ")", FULL, x -> x.feed(7, many));
        }
        for (int v = 0; v <= 3; v++) {
            int number = v;
            refuse(state, "card(" + 2 * number + ", " + number + ")", FULL, x -> x.card(2 * number, number));
        }
        for (int r = 0; r <= 7; r++) {
            int reaches = r;
            refuse(state, "rain(" + reaches + ")", FULL, x -> x.rain(reaches));
        }
        numbers(state, 3, 8);
    }

    /** All that is refused by its numbers alone, whatever the state: so many reaches and cards there are. */
    private static void numbers(Supplier<SluiceCards> state, int reaches, int cards) {
        for (int n : outside(1, 8)) refuse(state, "feed(7, " + n + ")", BAD, x -> x.feed(7, n));
        for (int kind : outside(0, 6)) {
            refuse(state, "card(" + kind + ", 0)", NONE, x -> x.card(kind, 0));
            refuse(state, "card(" + kind + ", 4)", NONE, x -> x.card(kind, 4));
        }
        for (int v : outside(0, 3)) refuse(state, "card(0, " + v + ")", BAD, x -> x.card(0, v));
        for (int rain : outside(0, 7)) refuse(state, "hour(" + rain + ")", BAD, x -> x.hour(rain));
        for (int rain : outside(-1, 7)) refuse(state, "rain(" + rain + ")", BAD, x -> x.rain(rain));
        for (int i : outside(-1, 2)) refuse(state, "fails(" + i + ")", NONE, x -> x.fails(i));
        for (int i : outside(-1, reaches - 1)) refuse(state, "fixed(" + i + ")", NONE, x -> x.fixed(i));
        for (int n : outside(1, 3)) refuse(state, "mean(" + n + ", 0, 0)", NO, x -> x.mean(n, 0, 0));
        for (int i : outside(0, 19)) refuse(state, "trace(" + i + ")", NONE, x -> x.trace(i));
        whats(state);
        if (reaches > 0) reachNumbers(state, reaches);
        cardNumbers(state, cards);
    }

    private static void whats(Supplier<SluiceCards> state) {
        for (int what : outside(0, 4)) {
            refuse(state, "of(0, " + what + ")", NONE, x -> x.of(0, what));
            refuse(state, "stream(" + what + ")", NONE, x -> x.stream(what));
            refuse(state, "count(" + what + ")", NONE, x -> x.count(what));
        }
        for (int what : outside(0, 2)) {
            refuse(state, "told(0, " + what + ")", NONE, x -> x.told(0, what));
            refuse(state, "run(" + what + ")", NONE, x -> x.run(what));
        }
        for (int what : outside(0, 1)) {
            refuse(state, "drunk(" + what + ")", NONE, x -> x.drunk(what));
            refuse(state, "same(" + what + ")", NONE, x -> x.same(what));
            refuse(state, "mean(1, " + what + ", 0)", NO, x -> x.mean(1, what, 0));
            refuse(state, "mean(1, 0, " + what + ")", NO, x -> x.mean(1, 0, what));
        }
    }

    private static void reachNumbers(Supplier<SluiceCards> state, int reaches) {
        for (int reach : outside(0, reaches - 1)) {
            refuse(state, "hang(" + reach + ", -1)", NONE, x -> x.hang(reach, -1));
            refuse(state, "of(" + reach + ", 0)", NONE, x -> x.of(reach, 0));
            refuse(state, "level(" + reach + ", 0)", NONE, x -> x.level(reach, 0));
            refuse(state, "level(" + reach + ", 10)", NONE, x -> x.level(reach, 10));
            refuse(state, "boards(" + reach + ")", NONE, x -> x.boards(reach));
            refuse(state, "found(" + reach + ")", NONE, x -> x.found(reach));
        }
        for (int n : outside(0, 5)) refuse(state, "level(0, " + n + ")", BAD, x -> x.level(0, n));
    }

    private static void cardNumbers(Supplier<SluiceCards> state, int cards) {
        for (int card : outside(0, cards - 1)) {
            refuse(state, "told(" + card + ", 0)", NONE, x -> x.told(card, 0));
            refuse(state, "lines(" + card + ")", NONE, x -> x.lines(card));
            refuse(state, "as(" + card + ", 0)", NONE, x -> x.as(card, 0));
            if (card != -1) refuse(state, "hang(0, " + card + ")", NONE, x -> x.hang(0, card));
        }
        for (int k : outside(0, 6)) refuse(state, "as(0, " + k + ")", NONE, x -> x.as(0, k));
    }
}
