/** Promises 1 to 6: a new object, the tape, rivers, cards, what hangs. */
public final class TextsTest {
    private static final Check check = new Check();

    public static void main(String[] args) {
        constants();
        promise1NewObject();
        promise2Feed();
        promise3RiverTexts();
        promise3WhatARiverTells();
        promise3NewestRiverHolds();
        promise4CardTexts();
        promise4Refusals();
        promise5Told();
        promise6Hang();
        check.end("TextsTest");
    }

    private static void constants() {
        check.about("the constants");
        check.due("NONE", SluiceCards.NONE, -1);
        check.due("BAD", SluiceCards.BAD, -2);
        check.due("STATE", SluiceCards.STATE, -3);
        check.due("FULL", SluiceCards.FULL, -4);
        check.due("NO", SluiceCards.NO, Long.MIN_VALUE);
    }

    private static void promise1NewObject() {
        check.about("promise 1");
        SluiceCards x = new SluiceCards();
        for (int what = 0; what < 5; what++) check.due("count(" + what + ")", x.count(what), 0);
        check.due("stream(3)", x.stream(3), -3);
        check.due("of(0, 0)", x.of(0, 0), -1);
        check.due("told(0, 0)", x.told(0, 0), -1);
        check.due("undo()", x.undo(), -3);
        check.due("trace(0)", x.trace(0), -1);
    }

    private static void promise2Feed() {
        check.about("promise 2");
        SluiceCards x = new SluiceCards();
        int[] bad = {0, -1, 9, Integer.MIN_VALUE, Integer.MAX_VALUE};
        for (int n : bad) check.due("feed(1, " + n + ")", x.feed(1, n), -2);
        check.due("count(3)", x.count(3), 0);
        // What stands above the n lowest bytes doesn't count.
        check.due("feed(.., 8)", x.feed(Check.word("reach 4 ", 0, 8), 8), 8);
        check.due("feed(.., 2)", x.feed(0x7777777777770000L | Check.word("1 ", 0, 2), 2), 10);
        check.due("feed(.., 1)", x.feed(0xffffffffffffff00L | '2', 1), 11);
        check.due("river()", x.river(), 1);
        check.due("of(0, 1)", x.of(0, 1), 4);
        for (int k = 1; k < 15; k++) check.due("feed(0, 8)", x.feed(0, 8), 8 * k);
        check.due("feed(0, 7)", x.feed(0, 7), 119);
        check.due("feed(0, 2) at 119", x.feed(0, 2), -4);
        check.due("feed(0, 9) at 119", x.feed(0, 9), -2);
        check.due("count(3)", x.count(3), 119);
        check.due("feed(0, 1) at 119", x.feed(0, 1), 120);
        check.due("feed(0, 1) at 120", x.feed(0, 1), -4);
        check.due("count(3)", x.count(3), 120);
    }

    private static void promise3RiverTexts() {
        check.about("promise 3");
        String reach = "reach 1 1 1", twelve = reach + Check.times(";sum 1", 11);
        Object[][] rows = {
            {"", -10}, {reach, 1}, {"reach 9 9 9", 1}, {reach + ";" + reach, 2}, {reach + ";" + reach + ";" + reach, 3},
            {"span 2;" + reach + ";odds 0;sum 0", 1},
            // a fourth reach
            {reach + ";" + reach + ";" + reach + ";" + reach, -46}, {reach + ";" + reach + ";" + reach + ";r", -46},
            {reach + ";" + reach + ";sum 1;" + reach + ";x", -10 - 42},
            // no reach
            {"span 2", -16}, {"span 2;sum 1", -22}, {Check.times("sum 1;", 11) + "sum 1", -10 - 71},
            {Check.times("sum 1;", 11) + reach, 1},
            // twelve clauses, and one more
            {twelve, 1}, {twelve + ";", -10 - 77}, {twelve + ";sum 1", -10 - 77},
            // words
            {"x", -10}, {"Reach 1 1 1", -10}, {"rich 1 1 1", -11}, {"reac", -14}, {"reach", -15}, {"reach1", -15}, {"s", -11},
            {"sx", -11}, {"sp", -12}, {"spin 1", -12}, {"sun 1", -12}, {"span1", -14}, {"odd 1", -13}, {"o", -11}, {" ", -10},
            {";", -10}, {"\u00f2each 1 1 1", -10}, {"\0", -10},
            // blanks
            {"reach  1 1 1", -16}, {"reach 1  1 1", -18}, {"reach 1 1 1 ", -21}, {" " + reach, -10}, {"reach 1;1 1", -17}, {"reach 1 1", -19},
            {"reach 1 1 ", -20}, {"span  1;" + reach, -15}, {"span 1 ;" + reach, -16}, {reach + "; sum 1", -22},
            // digits
            {"reach 0 1 1", -16}, {"reach 11 1 1", -17}, {"reach 1 11 1", -19}, {"reach 1 1 11", -21}, {"reach : 1 1", -16}, {"reach / 1 1", -16},
            {"reach 1 : 1", -18}, {"span 12", -16}, {"span x", -15}, {"sum -1", -14}, {reach + ";sum 10", -27}, {reach + ";odds 10", -28},
            // ends
            {reach + ";", -22}, {reach + ";;", -22}, {reach + ",", -21},
        };
        for (Object[] row : rows) {
            SluiceCards x = new SluiceCards();
            check.due("river() of " + row[0], Check.river(x, (String) row[0]), (Integer) row[1]);
            check.due("count(3) behind " + row[0], x.count(3), 0);
            check.due("count(0) behind " + row[0], x.count(0), Math.max(0, (Integer) row[1]));
        }
    }

    private static void promise3WhatARiverTells() {
        check.about("promise 3");
        String[] texts = {"reach 4 3 2", "span 0;sum 0;odds 0;reach 4 3 2", "span 4;sum 9;odds 9;reach 4 3 2", "span 1;reach 4 3 2;span 2;sum 8;sum 7;odds 1;odds 6", "reach 4 3 2;span 9"};
        int[][] told = {{3, 9, 5}, {1, 0, 0}, {3, 9, 9}, {2, 7, 6}, {3, 9, 5}};
        for (int k = 0; k < texts.length; k++) {
            SluiceCards x = new SluiceCards();
            Check.river(x, texts[k]);
            for (int what = 0; what < 3; what++) check.due(texts[k] + ": stream(" + what + ")", x.stream(what), told[k][what]);
            check.due("LEVEL", x.of(0, 0), 2);
            check.due("BANK", x.of(0, 1), 4);
            check.due("MILL", x.of(0, 2), 3);
            check.due("BOARDS", x.of(0, 3), 0);
            check.due("way", x.of(0, 4), 1);
        }
        SluiceCards x = new SluiceCards();
        Check.river(x, "reach 5 0 9;reach 1 2 3;reach 7 8 7");
        check.due("LEVEL above BANK", x.of(0, 0), 5);
        check.due("LEVEL above BANK", x.of(1, 0), 1);
        check.due("LEVEL as BANK", x.of(2, 0), 7);
        check.due("MILL above BANK", x.of(2, 2), 8);
    }

    private static void promise3NewestRiverHolds() {
        check.about("promise 3");
        SluiceCards x = new SluiceCards();
        Check.river(x, "span 2;sum 1;odds 1;reach 4 0 2;reach 5 0 1");
        Check.card(x, 0, 2, "0 if l=0");
        x.hang(0, 0);
        x.hour(1);
        x.rain(3);
        check.due("a faulty river()", Check.river(x, "reach 4 1 2;reach 1 1"), -31);
        check.due("REACHES stay", x.count(0), 2);
        check.due("LEVEL stays", x.of(0, 0), 1);
        check.due("BOARDS stay", x.of(0, 3), 2);
        check.due("span stays", x.stream(0), 2);
        check.due("HOUR stays", x.stream(3), 1);
        check.due("a new river()", Check.river(x, "reach 9 0 3"), 1);
        check.due("LEVEL", x.of(0, 0), 3);
        check.due("BOARDS", x.of(0, 3), 0);
        check.due("way", x.of(0, 4), 1);
        check.due("the reach below is gone", x.of(1, 0), -1);
        int[] stream = {3, 9, 5, 0, 0};
        for (int what = 0; what < 5; what++) check.due("stream(" + what + ")", x.stream(what), stream[what]);
        check.due("CARDS stay", x.count(1), 1);
        check.due("RAIN stays", x.count(2), 1);
        check.due("no REACH has a CARD", x.hang(0, 0), -5);
        check.due("RAIN falls on the new river", x.run(2), 2);
    }

    private static void promise4CardTexts() {
        check.about("promise 4");
        String line = "1 if l=1";
        Object[][] rows = {
            {"", -10}, {line, 0}, {"0 if h<0", 0}, {"3 if w>9", 0}, {"2 if c=1", 0}, {line + Check.times(";" + line, 5), 0},
            {line + Check.times(";" + line, 6), -10 - 53}, {line + Check.times(";" + line, 5) + ";", -10 - 53}, {line + ";", -19},
            {"4 if l=1", -10}, {"1if l=1", -11}, {"1 if", -14}, {"1 if ", -15}, {"1 If l=1", -12}, {"1  if l=1", -12}, {"1 if  l=1", -15}, {" " + line, -10},
            {"1 if z=1", -15}, {"1 if l", -16}, {"1 if l!1", -16}, {"1 if l=", -17}, {"1 if l=x", -17}, {"1 if l=12", -18}, {"1 if l=1 ", -18},
            {"1 if l<=1", -17}, {"1 if l=1&", -19}, {"1 if l=1&&", -19}, {"1 if l=1|h=1&w=1", 0}, {"1 if |l=1", -15}, {"1 if l=1l=1", -18},
            {"1 if (l=1)", 0}, {"1 if (l=1", -19}, {"1 if l=1)", -18}, {"1 if ()", -16}, {"1 if (l=1;", -19}, {"1 if (l=1)l", -20}, {"1 if !(l=1)|!h=2", 0},
            {"1 if !", -16}, {"1 if !&", -16}, {"1 if l=1!", -18},
            // five open at most
            {"1 if !!!!!l=1", 0}, {"1 if !!!!!!l=1", -20}, {"1 if (((((l=1)))))", 0}, {"1 if ((((((l=1))))))", -20}, {"1 if (!(!(l=1)))", 0},
            {"1 if (!(!(!l=1)))", -20}, {"1 if !!!!!l=1&!!!!!l=1", 0}, {"1 if (!!!!l=1&!!!!l=1)", 0}, {"1 if (!!!!l=1&!!!!!l=1)", -10 - 18},
            {"1 if !(!(l=1)&!!!l=1)", 0}, {"1 if !(!(l=1)&!!!!l=1)", -10 - 17}, {"1 if !!!!(l=1&l=2|h=1)&(l=1)", 0}, {"1 if !!!!(l=1&!l=2)", -10 - 14},
            {"\u00b1 if l=1", -10}, {"\0", -10},
        };
        for (Object[] row : rows) {
            SluiceCards x = new SluiceCards();
            check.due("card(0, 0) of " + row[0], Check.card(x, 0, 0, (String) row[0]), (Integer) row[1]);
            check.due("count(3) behind " + row[0], x.count(3), 0);
            check.due("count(1) behind " + row[0], x.count(1), (Integer) row[1] == 0 ? 1 : 0);
        }
    }

    private static void promise4Refusals() {
        check.about("promise 4");
        SluiceCards x = new SluiceCards();
        Check.feed(x, "1 if l=1");
        check.due("card(7, 9)", x.card(7, 9), -1);
        check.due("card(-1, 0)", x.card(-1, 0), -1);
        check.due("card(0, 4)", x.card(0, 4), -2);
        check.due("card(6, -1)", x.card(6, -1), -2);
        check.due("count(3): the tape stays", x.count(3), 8);
        check.due("card(6, 3)", x.card(6, 3), 0);
        for (int number = 1; number < 8; number++) check.due("the next card", Check.card(x, number % 7, 0, "1 if l=1"), number);
        Check.feed(x, "x");
        check.due("a ninth", x.card(0, 0), -4);
        check.due("a ninth of no kind", x.card(7, 0), -1);
        check.due("a ninth, v wrong", x.card(0, 4), -2);
        check.due("count(3): the tape stays", x.count(3), 1);
        check.due("count(1)", x.count(1), 8);
    }

    private static void promise5Told() {
        check.about("promise 5");
        SluiceCards x = new SluiceCards();
        for (int kind = 0; kind < 7; kind++) Check.card(x, kind, kind % 4, "1 if l=1" + Check.times(";2 if h=2", kind % 6));
        for (int kind = 0; kind < 7; kind++) {
            check.due("KIND", x.told(kind, 0), kind);
            check.due("v", x.told(kind, 1), kind % 4);
            check.due("LINES", x.told(kind, 2), 1 + kind % 6);
            check.due("what -1", x.told(kind, -1), -1);
            check.due("what 3", x.told(kind, 3), -1);
        }
        check.due("told(7, 0)", x.told(7, 0), -1);
        check.due("told(-1, 0)", x.told(-1, 0), -1);
        check.due("told(max, 0)", x.told(Integer.MAX_VALUE, 0), -1);
    }

    private static void promise6Hang() {
        check.about("promise 6");
        SluiceCards x = new SluiceCards();
        check.due("without a river", x.hang(0, -1), -1);
        Check.river(x, "reach 4 0 1;reach 4 0 1");
        check.due("no such card", x.hang(0, 0), -1);
        Check.card(x, 0, 1, "1 if l=1");
        Check.card(x, 0, 2, "1 if l=1");
        check.due("hang(0, 1)", x.hang(0, 1), -5);
        check.due("hang(0, 0)", x.hang(0, 0), 1);
        check.due("hang(1, 0), at two reaches", x.hang(1, 0), -5);
        check.due("hang(0, 2)", x.hang(0, 2), -1);
        check.due("hang(0, -2)", x.hang(0, -2), -1);
        check.due("hang(2, 0)", x.hang(2, 0), -1);
        check.due("hang(-1, 0)", x.hang(-1, 0), -1);
        check.due("boards(1)", x.boards(1), 1);
        check.due("hang(0, -1)", x.hang(0, -1), 0);
        check.due("hang(0, -1) again", x.hang(0, -1), -5);
        check.due("boards(0), no card", x.boards(0), 0);
    }
}
