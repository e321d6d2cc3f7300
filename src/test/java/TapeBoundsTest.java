/** Promises 2 to 4 and Terms 1 up to the CARDS' kinds: each sentence that names a bound of THE TAPE and of the texts on it. */
public final class TapeBoundsTest {
    private static final Check check = new Check();
    private static final String REACH = "reach 1 1 1", LINE = "1 if l=1";

    public static void main(String[] args) {
        tape();
        riverTexts();
        riverNumbers();
        newestRiver();
        cardTexts();
        cardNumbers();
        check.end("TapeBoundsTest");
    }

    /** What river() answers to a text on a new object. */
    private static void river(String text, int due) {
        SluiceCards x = new SluiceCards();
        check.due("river() of " + text, Check.river(x, text), due);
        check.due("THE TAPE behind " + text, x.count(3), 0);
    }

    private static void card(String text, int due) {
        SluiceCards x = new SluiceCards();
        check.due("card(1, 0) of " + text, Check.card(x, 1, 0, text), due);
        check.due("THE TAPE behind " + text, x.count(3), 0);
    }

    private static int fault(int place) {
        return -10 - place;
    }

    private static String put(String text, int place, char sign) {
        return text.substring(0, place) + sign + text.substring(place + 1);
    }

    private static SluiceCards taped(int bytes) {
        SluiceCards x = new SluiceCards();
        Check.feed(x, Check.times("z", bytes));
        return x;
    }

    // ---- THE TAPE

    private static void tape() {
        bytesAtMost120();
        fullByEachLength();
        fullTakesNoByte();
        textsOf120();
        nOf1To8();
        badAheadOfFull();
        theLowestTheHighestFirst();
        emptyThen();
    }

    private static void bytesAtMost120() {
        check.about("THE TAPE (bytes, 120 at most)");
        SluiceCards x = new SluiceCards();
        for (int k = 1; k <= 120; k++) check.due("feed(0, 1)", x.feed(0, 1), k);
        check.due("feed(0, 1), the 121st byte", x.feed(0, 1), -4);
        check.due("count(3)", x.count(3), 120);
        SluiceCards y = new SluiceCards();
        for (int k = 1; k <= 15; k++) check.due("feed(-1, 8)", y.feed(-1, 8), 8 * k);
        check.due("feed(-1, 8), the 16th", y.feed(-1, 8), -4);
        check.due("count(3)", y.count(3), 120);
    }

    private static void fullByEachLength() {
        check.about("feed: FULL");
        for (int n = 1; n <= 8; n++) {
            check.due("feed(0, " + n + ") at " + (120 - n), taped(120 - n).feed(0, n), 120);
            SluiceCards x = taped(121 - n);
            check.due("feed(0, " + n + ") at " + (121 - n), x.feed(0, n), -4);
            check.due("count(3)", x.count(3), 121 - n);
        }
    }

    /** Six lines of 120 bytes in all; the last byte makes the last line hold at level 5. */
    private static String longest() {
        return Check.times("1 if l>9&l>9&l>9;", 5) + "2 if !l<9|(l>9)|l>9|l>9|l>9|l>9|l=5";
    }

    private static void fullTakesNoByte() {
        check.about("FULL .. They change nothing");
        String text = longest() + "678";
        SluiceCards x = new SluiceCards();
        Check.river(x, "reach 9 0 5");
        Check.feed(x, text.substring(0, 115));
        check.due("feed of 8 at 115", x.feed(Check.word(text, 115, 123), 8), -4);
        check.due("feed of 5 at 115", x.feed(Check.word(text, 115, 120), 5), 120);
        check.due("card(1, 0)", x.card(1, 0), 0);
        x.hang(0, 0);
        check.due("boards(0): the last byte counts", x.boards(0), 2);
        x.level(0, 4);
        check.due("boards(0)", x.boards(0), 0);
    }

    private static void textsOf120() {
        check.about("THE TAPE (bytes, 120 at most): a text may fill it");
        card(longest(), 0);
        card(put(longest(), 119, 'z'), fault(119));
        card(longest().replace("(l>9)", "!l>9").replace("l=5", "(l=5"), fault(120));
        river(REACH + Check.times(";" + REACH, 2) + Check.times(";odds 1", 9), 3);
        river(REACH + Check.times(";" + REACH, 2) + Check.times(";odds 1", 12) + ";", fault(98));
    }

    private static void nOf1To8() {
        check.about("BAD: n not 1 .. 8");
        SluiceCards x = new SluiceCards();
        int[] bad = {0, -1, -8, 9, 16, 257, 264, Integer.MIN_VALUE, Integer.MIN_VALUE + 1, Integer.MAX_VALUE};
        for (int n : bad) check.due("feed(7, " + n + ")", x.feed(7, n), -2);
        check.due("count(3)", x.count(3), 0);
        check.due("feed(7, 1)", x.feed(7, 1), 1);
        check.due("feed(7, 8)", x.feed(7, 8), 9);
    }

    private static void badAheadOfFull() {
        check.about("BAD: n not 1 .. 8; FULL, of several the first one told");
        SluiceCards x = taped(120);
        int[] bad = {0, -1, 9, Integer.MIN_VALUE, Integer.MAX_VALUE};
        for (int n : bad) check.due("feed(7, " + n + ")", x.feed(7, n), -2);
        check.due("feed(7, 1)", x.feed(7, 1), -4);
    }

    private static void theLowestTheHighestFirst() {
        check.about("The n lowest bytes of w, the highest first");
        String text = "span 2;reach 7 5 3;sum 8;odds 6";
        for (int n = 1; n <= 8; n++) {
            SluiceCards x = new SluiceCards();
            for (int from = 0; from < text.length(); from += n) {
                int till = Math.min(text.length(), from + n), many = till - from;
                long above = many == 8 ? 0 : 0xa5a5a5a5a5a5a5a5L << 8 * many;
                check.due("feed of " + many, x.feed(above | Check.word(text, from, till), many), till);
            }
            check.due("river(), fed by " + n, x.river(), 1);
            int[] due = {3, 7, 5};
            for (int what = 0; what < 3; what++) check.due("of(0, " + what + ")", x.of(0, what), due[what]);
            int[] stream = {2, 8, 6};
            for (int what = 0; what < 3; what++) check.due("stream(" + what + ")", x.stream(what), stream[what]);
        }
        // a byte above 127 is no sign of a text
        for (int place = 0; place < REACH.length(); place++) {
            river(put(REACH, place, (char) (REACH.charAt(place) | 128)), fault(place));
        }
    }

    private static void emptyThen() {
        check.about("THE TAPE, which is empty then");
        SluiceCards x = new SluiceCards();
        check.due("river() of none", x.river(), fault(0));
        check.due("card(0, 0) of none", x.card(0, 0), fault(0));
        check.due("a river", Check.river(x, REACH), 1);
        check.due("river() again", x.river(), fault(0));
        check.due("a card", Check.card(x, 0, 0, LINE), 0);
        check.due("card(0, 0) again", x.card(0, 0), fault(0));
        check.due("a faulty one", Check.river(x, REACH + "z"), fault(11));
        check.due("a river behind it", Check.river(x, REACH), 1);
        check.due("a faulty one", Check.card(x, 0, 0, LINE + "z"), fault(8));
        check.due("a card behind it", Check.card(x, 0, 0, LINE), 1);
        // a full one too
        Check.feed(x, put(longest(), 119, 'z'));
        check.due("card(0, 0) of 120 bytes", x.card(0, 0), fault(119));
        check.due("feed(0, 8)", x.feed(0, 8), 8);
        check.due("river() of zeros", x.river(), fault(0));
    }

    // ---- RIVERS

    private static void riverTexts() {
        riverEndsTooEarly();
        riverWrongByte();
        riverFirstBytes();
        riverBlanks();
        riverClauses();
        riverReaches();
        riverNoReach();
        riverFourthReach();
        riverBankZero();
    }

    private static void riverEndsTooEarly() {
        check.about("FAULT: .. (the size, if it ends too early)");
        String text = "reach 4 1 2;span 3;sum 5;odds 4";
        for (int size = 0; size <= text.length(); size++) {
            boolean whole = size == 11 || size == 18 || size == 24 || size == 31;
            river(text.substring(0, size), whole ? 1 : fault(size));
        }
        river(text + ";", fault(32));
        river(text + ";r", fault(33));
    }

    private static void riverWrongByte() {
        check.about("FAULT: the place of the first byte with which no RIVER can go on");
        String text = "reach 4 1 2;span 3;sum 5;odds 4";
        char[] wrong = {0, 'x', 255, ' ', ';', '/', ':', '\n', 'R'};
        for (int place = 0; place < text.length(); place++) {
            for (char sign : wrong) {
                if (text.charAt(place) == sign) continue;
                river(put(text, place, sign), fault(place));
                // what comes behind it counts no more, nor that the text ends there
                river(put(text, place, sign).substring(0, place + 1), fault(place));
            }
        }
        for (char sign : wrong) if (sign != ';') river(text + sign, fault(31));
    }

    private static void riverFirstBytes() {
        check.about("FAULT: the place of the first byte with which no RIVER can go on");
        for (int sign = 0; sign < 256; sign++) {
            boolean word = sign == 'r' || sign == 's' || sign == 'o', second = sign == 'p' || sign == 'u', digit = sign >= '0' && sign <= '9';
            river("" + (char) sign, fault(word ? 1 : 0));
            river("s" + (char) sign, fault(second ? 2 : 1));
            river(REACH + ";" + (char) sign, fault(word ? 13 : 12));
            river("reach " + (char) sign, fault(digit && sign != '0' ? 7 : 6));
            river("reach 1 " + (char) sign, fault(digit ? 9 : 8));
            river("reach 1 1 " + (char) sign, digit ? 1 : fault(10));
            river(REACH + ";span " + (char) sign, digit ? 1 : fault(17));
            river(REACH + ";sum " + (char) sign, digit ? 1 : fault(16));
            river(REACH + ";odds " + (char) sign, digit ? 1 : fault(17));
            river(REACH + (char) sign, fault(sign == ';' ? 12 : 11));
        }
    }

    private static void riverBlanks() {
        check.about("one blank ahead of each part behind the word");
        String[] texts = {"reach1 1 1", "reach  1 1 1", "reach 11 1", "reach 1  1 1", "reach 1 11", "reach 1 1  1", " reach 1 1 1", "reach 1 1 1 "};
        int[] places = {5, 6, 7, 8, 9, 10, 0, 11};
        for (int k = 0; k < texts.length; k++) river(texts[k], fault(places[k]));
        String[] words = {"span", "sum", "odds"};
        for (String word : words) {
            int n = word.length();
            river(word + "1;" + REACH, fault(n));
            river(word + "  1;" + REACH, fault(n + 1));
            river(word + " 1 ;" + REACH, fault(n + 2));
            river(word + " 1; " + REACH, fault(n + 3));
            river(word + " 1;" + REACH, 1);
        }
    }

    private static void riverClauses() {
        check.about("CLAUSES, 12 at most, with ; between");
        String eleven = Check.times("odds 1;", 10) + REACH;
        river(eleven, 1);
        river(eleven + ";sum 1", 1);
        river(eleven + ";sum 1;", fault(87));
        river(eleven + ";sum 1;sum 1", fault(87));
        river(eleven + ";" + REACH, 2);
        river(eleven + ";" + REACH + ";", fault(93));
        river(eleven + ";" + REACH + ";" + REACH, fault(93));
        river(Check.times("span 1;", 11) + REACH, 1);
        river(Check.times("span 1;", 12) + REACH, fault(83));
        river(REACH + ";;" + REACH, fault(12));
        river(";" + REACH, fault(0));
        river(REACH + " " + REACH, fault(11));
        river(REACH + REACH, fault(11));
    }

    private static void riverReaches() {
        check.about("REACHES 0 .. r - 1 (r 1 .. 3) .. the reaches as they come");
        String[] texts = {"reach 9 8 7", "reach 9 8 7;reach 8 7 6", "reach 9 8 7;reach 8 7 6;reach 7 6 5", "sum 1;reach 9 8 7;odds 1;reach 8 7 6;span 1;reach 7 6 5;sum 2"};
        for (String text : texts) {
            int reaches = text.split("reach").length - 1;
            SluiceCards x = new SluiceCards();
            check.due("river()", Check.river(x, text), reaches);
            check.due("count(0)", x.count(0), reaches);
            for (int reach = 0; reach < 4; reach++) {
                check.due("LEVEL of " + reach, x.of(reach, 0), reach < reaches ? 7 - reach : -1);
                check.due("BANK of " + reach, x.of(reach, 1), reach < reaches ? 9 - reach : -1);
                check.due("MILL of " + reach, x.of(reach, 2), reach < reaches ? 8 - reach : -1);
            }
        }
    }

    private static void riverNoReach() {
        check.about("At least one reach (without one the FAULT is the size)");
        String[] texts = {"", "span 3", "sum 0", "odds 9", "span 1;sum 1", "span 1;sum 1;odds 1", Check.times("odds 1;", 10) + "odds 1", Check.times("odds 1;", 11) + "odds 1"};
        for (String text : texts) river(text, fault(text.length()));
        // a wrong byte is one nevertheless
        river("span 3z", fault(6));
        river("span 3;z", fault(7));
        river(Check.times("odds 1;", 12), fault(83));
        river(Check.times("odds 1;", 12) + REACH, fault(83));
    }

    private static void riverFourthReach() {
        check.about("3 at most (the word of a fourth one is the FAULT)");
        String three = REACH + ";" + REACH + ";" + REACH;
        String[] fourths = {"r", "re", "reach", "reach ", "reach 0 1 1", "rx", REACH, REACH + ";", REACH + ";x"};
        for (String fourth : fourths) {
            river(three + ";" + fourth, fault(36));
            river(three + ";sum 1;" + fourth, fault(42));
            river("span 1;" + REACH + ";odds 1;" + REACH + ";sum 1;" + REACH + ";odds 1;span 1;" + fourth, fault(70));
            river(three + Check.times(";sum 1", 8) + ";" + fourth, fault(84));
        }
        river(three + ";", fault(36));
        river(three + ";s", fault(37));
        river(three + ";o", fault(37));
        river(three + ";x", fault(36));
        // where a thirteenth clause is too many, the ; is the first of the two
        river(three + Check.times(";sum 1", 9) + ";" + REACH, fault(89));
    }

    private static void riverBankZero() {
        check.about("BANK is not 0 (that is the FAULT)");
        river("reach 0 1 1", fault(6));
        river("reach 0", fault(6));
        river("reach 0x", fault(6));
        river("span 1;reach 0 1 1", fault(13));
        river(REACH + ";reach 0 1 1", fault(18));
        river(REACH + ";" + REACH + ";reach 0 1 1", fault(30));
        river("reach 1 0 0", 1);
    }

    private static void riverNumbers() {
        levelAboveBank();
        digitsOfARiver();
        withoutThem();
        theLastOnesHold();
    }

    private static void levelAboveBank() {
        check.about("LEVEL above BANK is BANK");
        SluiceCards x = new SluiceCards();
        for (int bank = 1; bank <= 9; bank++) {
            for (int level = 0; level <= 9; level++) {
                Check.river(x, "reach " + bank + " 0 " + level);
                check.due("LEVEL of " + bank + " 0 " + level, x.of(0, 0), Math.min(bank, level));
            }
        }
        Check.river(x, "reach 9 0 9;reach 4 0 5;reach 1 0 9");
        check.due("LEVEL of 1", x.of(1, 0), 4);
        check.due("LEVEL of 2", x.of(2, 0), 1);
        check.due("the BELL", x.stream(4), 1);
    }

    private static void digitsOfARiver() {
        check.about("span: HOURS of RAIN (0 is 1, more than 3 is 3); sum, odds, MILL (0 .. 9), BANK (1 .. 9)");
        int[] spans = {1, 1, 2, 3, 3, 3, 3, 3, 3, 3};
        SluiceCards x = new SluiceCards();
        for (int n = 0; n <= 9; n++) {
            int bank = Math.max(1, n);
            Check.river(x, "span " + n + ";sum " + n + ";odds " + n + ";reach " + bank + " " + n + " 0");
            check.due("span " + n, x.stream(0), spans[n]);
            check.due("sum " + n, x.stream(1), n);
            check.due("odds " + n, x.stream(2), n);
            check.due("BANK " + bank, x.of(0, 1), bank);
            check.due("MILL " + n, x.of(0, 2), n);
        }
    }

    private static void withoutThem() {
        check.about("the last ones hold (3, 9, 5 without)");
        String[] texts = {REACH, "span 1;" + REACH, "sum 1;" + REACH, "odds 1;" + REACH};
        int[][] due = {{3, 9, 5}, {1, 9, 5}, {3, 1, 5}, {3, 9, 1}};
        SluiceCards x = new SluiceCards();
        for (int k = 0; k < texts.length; k++) {
            Check.river(x, texts[k]);
            for (int what = 0; what < 3; what++) check.due(texts[k] + ": stream(" + what + ")", x.stream(what), due[k][what]);
        }
        Check.river(x, REACH);
        for (int what = 0; what < 3; what++) check.due("nothing stays: stream(" + what + ")", x.stream(what), due[0][what]);
        // nor of a text that was faulty
        Check.river(x, "span 1;sum 1;odds 1;" + REACH + ";");
        Check.river(x, REACH);
        for (int what = 0; what < 3; what++) check.due("nothing stays: stream(" + what + ")", x.stream(what), due[0][what]);
    }

    private static void theLastOnesHold() {
        check.about("the last ones hold");
        SluiceCards x = new SluiceCards();
        Check.river(x, "span 1;span 2;sum 1;sum 2;odds 1;odds 2;" + REACH);
        for (int what = 0; what < 3; what++) check.due("stream(" + what + ")", x.stream(what), 2);
        Check.river(x, "span 3;sum 9;odds 9;" + REACH + ";odds 0;sum 0;span 0");
        int[] due = {1, 0, 0};
        for (int what = 0; what < 3; what++) check.due("stream(" + what + ")", x.stream(what), due[what]);
        Check.river(x, "span 1;span 9;" + REACH);
        check.due("stream(0)", x.stream(0), 3);
    }

    // ---- the newest river

    private static void newestRiver() {
        newestTellsAll();
        newestLongerOrShorter();
        newestAsIfTheFirst();
        theOneThatHeldHolds();
        faultyWithoutAnother();
    }

    /** A river of two reaches, cards at both, an hour gone by, two hours of rain told. */
    private static SluiceCards gone() {
        SluiceCards x = new SluiceCards();
        Check.river(x, "span 2;sum 4;odds 3;reach 6 1 4;reach 7 2 2");
        Check.card(x, 0, 2, LINE);
        Check.card(x, 0, 1, LINE);
        x.hang(0, 0);
        x.hang(1, 1);
        x.rain(3);
        x.rain(2);
        x.hour(2);
        return x;
    }

    private static void newestTellsAll() {
        check.about("The newest RIVER holds (LEVELS are as it tells then, BOARDS 0, the HOUR 0, no REACH has a CARD any more; the RAIN told by hand stays)");
        SluiceCards x = gone();
        check.due("the same text again", Check.river(x, "span 2;sum 4;odds 3;reach 6 1 4;reach 7 2 2"), 2);
        int[][] due = {{4, 6, 1, 0, 1}, {2, 7, 2, 0, 1}};
        for (int reach = 0; reach < 2; reach++) {
            for (int what = 0; what < 5; what++) check.due("of(" + reach + ", " + what + ")", x.of(reach, what), due[reach][what]);
            check.due("boards(" + reach + ")", x.boards(reach), 0);
            check.due("no CARD hangs", x.hang(reach, -1), -5);
        }
        check.due("the HOUR", x.stream(3), 0);
        check.due("RAIN stays", x.count(2), 2);
        check.due("CARDS stay", x.count(1), 2);
        check.due("v of CARD 0", x.told(0, 1), 2);
        check.due("RAIN falls: 4 and 2, and 1 and 2", x.run(2), 9);
    }

    /** Three cards and two hours of rain told; a river ahead of the newest one, under way with cards at all reaches, or none. */
    private static SluiceCards newestBehind(String older, String newest) {
        SluiceCards x = new SluiceCards();
        for (int k = 0; k < 3; k++) Check.card(x, 2 * k, k, "3 if w=2|c=1;1 if h>0");
        x.rain(7);
        x.rain(5);
        if (!older.isEmpty()) {
            check.due("river() of " + older, Check.river(x, older), 3);
            for (int reach = 0; reach < 3; reach++) x.hang(reach, reach);
            for (int k = 0; k < 4; k++) x.hour(7);
        }
        check.due("river() of " + newest, Check.river(x, newest), newest.split("reach").length - 1);
        return x;
    }

    private static void newestAsIfTheFirst() {
        check.about("The newest RIVER holds: nothing of one that was longer is left");
        String[] olders = {"reach 1 9 1;reach 1 9 1;reach 1 9 1;odds 9;sum 1;span 1", "reach 9 9 0;reach 9 9 0;reach 9 9 0;odds 1;sum 0;span 2"};
        String[] newests = {"reach 4 0 2", "reach 9 2 9", "reach 5 0 1;reach 5 1 4", "span 2;reach 9 0 0;reach 1 0 0;sum 3", "reach 3 1 3;reach 2 0 0;reach 3 0 1"};
        for (String older : olders) {
            for (String newest : newests) {
                check.dueRow(newest + " behind " + older, Look.at(newestBehind(older, newest)), Look.at(newestBehind("", newest)));
                check.dueRow(newest + " behind " + older + ", into it", Look.into(newestBehind(older, newest)), Look.into(newestBehind("", newest)));
            }
        }
    }

    private static void newestLongerOrShorter() {
        check.about("The newest RIVER holds");
        SluiceCards x = gone();
        check.due("a shorter one", Check.river(x, "reach 9 3 3"), 1);
        check.due("of(1, 0)", x.of(1, 0), -1);
        check.due("hang(1, 0)", x.hang(1, 0), -1);
        check.due("a longer one", Check.river(x, "reach 8 0 1;reach 8 0 1;reach 8 0 1"), 3);
        for (int reach = 0; reach < 3; reach++) {
            check.due("BOARDS", x.of(reach, 3), 0);
            check.due("way", x.of(reach, 4), 1);
            check.due("no CARD hangs", x.hang(reach, 0), -5);
        }
    }

    private static void theOneThatHeldHolds() {
        check.about("-10 less the FAULT (the one that held holds)");
        String[] texts = {"", "x", "reach 9 9 9;reach 9 9 9;reach 9 9 9;r", "reach 1 1 1;", "reach 0 1 1", "span 1;sum 1;odds 1", "reach 1 1 1z"};
        for (String text : texts) {
            SluiceCards x = gone();
            long[] before = Look.at(x);
            check.due("a faulty one", Check.river(x, text) < -9 ? 1 : 0, 1);
            check.dueRow("all behind it", Look.at(x), before);
            check.due("the CARD of 0", x.hang(0, -1), 0);
            check.due("the CARD of 1", x.hang(1, -1), 1);
        }
    }

    private static void faultyWithoutAnother() {
        check.about("-10 less the FAULT (the one that held holds): none");
        SluiceCards x = new SluiceCards();
        check.due("river()", Check.river(x, "reach 4 1 2;reach 4 1 2;span x"), fault(29));
        check.due("count(0)", x.count(0), 0);
        check.due("of(0, 0)", x.of(0, 0), -1);
        check.due("stream(3)", x.stream(3), -3);
        check.due("holds()", x.holds(), -3);
        check.due("a river behind it", Check.river(x, REACH), 1);
        check.due("of(1, 0)", x.of(1, 0), -1);
    }

    // ---- CARDS

    private static void cardTexts() {
        cardEndsTooEarly();
        cardWrongByte();
        cardEachByte();
        cardBlanks();
        cardLines();
        fiveOpen();
        openTillTheirEnds();
        brackets();
    }

    private static void cardEndsTooEarly() {
        check.about("CARDS are read from THE TAPE likewise: the size, if it ends too early");
        String text = "2 if l>3&!(w=0);1 if l>1|h=2;0 if c=0";
        for (int size = 0; size <= text.length(); size++) {
            boolean whole = size == 8 || size == 15 || size == 24 || size == 28 || size == 37;
            card(text.substring(0, size), whole ? 0 : fault(size));
        }
        String[] ends = {";", "&", "|", "&!", "&(", "|(l=1", "&l", "&l="};
        for (String end : ends) card(text + end, fault(37 + end.length()));
    }

    private static void cardWrongByte() {
        check.about("CARDS are read from THE TAPE likewise: the first byte with which none can go on");
        String text = "2 if l>3&!(w=0);1 if l>1|h=2;0 if c=0";
        char[] wrong = {0, 'x', 255, ' ', '/', ':', '\n', 'L'};
        for (int place = 0; place < text.length(); place++) {
            for (char sign : wrong) {
                if (text.charAt(place) == sign) continue;
                card(put(text, place, sign), fault(place));
                card(put(text, place, sign).substring(0, place + 1), fault(place));
            }
            card(put(text, place, (char) (text.charAt(place) | 128)), fault(place));
        }
        for (char sign : wrong) card(text + sign, fault(37));
    }

    private static void cardEachByte() {
        check.about("b a digit 0 .. 3; F: !F, (E), or a TEST: l or h or w or c, one of < = >, a digit");
        for (int sign = 0; sign < 256; sign++) {
            char c = (char) sign;
            boolean digit = c >= '0' && c <= '9', boards = c >= '0' && c <= '3', what = "lhwc".indexOf(c) >= 0, open = c == '!' || c == '(';
            card(c + " if l=1", boards ? 0 : fault(0));
            card(LINE + ";" + c + " if l=1", boards ? 0 : fault(9));
            card("1 if " + c + "=1", what ? 0 : fault(open ? 6 : 5));
            card("1 if l" + c + "1", "<=>".indexOf(c) >= 0 ? 0 : fault(6));
            card("1 if l=" + c, digit ? 0 : fault(7));
            card(LINE + c, fault("&|;".indexOf(c) >= 0 ? 9 : 8));
            card("1 if (l=1" + c, c == ')' ? 0 : fault("&|".indexOf(c) >= 0 ? 10 : 9));
            card("1 if (l=1)" + c, fault("&|;".indexOf(c) >= 0 ? 11 : 10));
        }
    }

    private static void cardBlanks() {
        check.about("one blank on both sides of if");
        String[] texts = {"1if l=1", "1  if l=1", "1 ifl=1", "1 if  l=1", " 1 if l=1", "1 if l=1 ", "1 if l =1", "1 if l= 1", "1 i f l=1", "1 if (l=1 )", "1 if ! l=1", LINE + "; " + LINE, LINE + " ;" + LINE};
        int[] places = {1, 2, 4, 5, 0, 8, 6, 7, 3, 9, 6, 9, 8};
        for (int k = 0; k < texts.length; k++) card(texts[k], fault(places[k]));
    }

    private static void cardLines() {
        check.about("LINES, 1 to 6, with ; between");
        for (int lines = 1; lines <= 6; lines++) {
            SluiceCards x = new SluiceCards();
            check.due(lines + " LINES", Check.card(x, 0, 0, LINE + Check.times(";" + LINE, lines - 1)), 0);
            check.due("told(0, 2)", x.told(0, 2), lines);
        }
        String six = LINE + Check.times(";" + LINE, 5);
        card(six + ";", fault(53));
        card(six + ";x", fault(53));
        card(six + ";" + LINE, fault(53));
        card(";" + LINE, fault(0));
        card(LINE + ";;" + LINE, fault(9));
        card(LINE + LINE, fault(8));
    }

    private static void fiveOpen() {
        check.about("At most 5 of ! and ( are open");
        String[] opens = {"!!!!!", "(((((", "!(!(!", "(!(!(", "!!(((", "((!!!", "!!!!(", "((((!"};
        for (String open : opens) {
            String ends = Check.times(")", open.replace("!", "").length());
            card("1 if " + open + "l=1" + ends, 0);
            card("1 if " + open.substring(1) + "l=1" + Check.times(")", open.substring(1).replace("!", "").length()), 0);
            // the sixth is the FAULT, whatever comes behind it
            card("1 if " + open + "!l=1" + ends, fault(10));
            card("1 if " + open + "(l=1)" + ends, fault(10));
            card("1 if " + open + "!", fault(10));
            card("1 if " + open + "(", fault(10));
            card("1 if " + open, fault(10));
            card("1 if " + open + "x", fault(10));
            card("1 if l=1|" + open + "!l=1", fault(14));
            card(LINE + ";1 if " + open + "(", fault(19));
        }
    }

    private static void openTillTheirEnds() {
        check.about("a ( till its ) , a ! till its F ends");
        card("1 if !!!!!l=1&!!!!!l=1|!!!!!l=1", 0);
        card("1 if !!!!!l=1&!!!!!!l=1", fault(19));
        card("1 if (((((l=1)))))|(((((l=1)))))", 0);
        card("1 if (((((l=1)))))|((((((l=1", fault(24));
        // four brackets stay open behind the fifth's end, so one more may be opened, not two
        card("1 if (((((l=1)&!l=1))))", 0);
        card("1 if (((((l=1)&!!l=1))))", fault(16));
        card("1 if (((((l=1)&(l=1)))))", 0);
        card("1 if (((((l=1)&((l=1", fault(16));
        // the ! ends with the bracket behind it, and with the test
        card("1 if (!(l=1)&!!!!l=1)", 0);
        card("1 if (!(l=1)&!!!!!l=1)", fault(17));
        card("1 if (!l=1&!!!!l=1)", 0);
        card("1 if (!l=1&!!!!!l=1)", fault(15));
        // not before: in the bracket it is open still
        card("1 if !(l=1&!!!l=1)", 0);
        card("1 if !(l=1&!!!!l=1)", fault(14));
        card("1 if !!!!(l=1|!l=1)", fault(14));
        card("1 if !!!!(l=1|(l=1))", fault(14));
        // each line begins with none
        card("1 if !!!!!l=1;1 if (((((l=1)))));1 if !!!!!l=1", 0);
    }

    private static void brackets() {
        check.about("F: !F, (E), or a TEST");
        card("1 if ()", fault(6));
        card("1 if (l=1;1 if l=1)", fault(9));
        card("1 if l=1)", fault(8));
        card("1 if (l=1))", fault(10));
        card("1 if (l=1)(l=1)", fault(10));
        card("1 if (l=1)!l=1", fault(10));
        card("1 if l=1!", fault(8));
        card("1 if !)", fault(6));
        card("1 if &l=1", fault(5));
        card("1 if l=1&|l=1", fault(9));
        card("1 if l=1||l=1", fault(9));
    }

    private static void cardNumbers() {
        eightCards();
        eightLongCards();
        faultyIsNoCard();
        kinds();
        numbersV();
        stays();
        firstOneTold();
    }

    private static SluiceCards eight() {
        SluiceCards x = new SluiceCards();
        for (int k = 0; k < 8; k++) Check.card(x, 1, k % 4, LINE);
        return x;
    }

    private static void eightCards() {
        check.about("CARDS are numbered from 0 on, 8 at most");
        SluiceCards x = new SluiceCards();
        for (int k = 0; k < 8; k++) {
            check.due("card(1, 0)", Check.card(x, 1, 0, LINE), k);
            check.due("count(1)", x.count(1), k + 1);
        }
        Check.feed(x, LINE);
        check.due("a ninth", x.card(1, 0), -4);
        check.due("a ninth again", x.card(1, 0), -4);
        check.due("count(1)", x.count(1), 8);
        check.due("told(8, 0)", x.told(8, 0), -1);
    }

    private static void eightLongCards() {
        check.about("CARDS are numbered from 0 on, 8 at most: of 120 bytes each");
        SluiceCards x = new SluiceCards();
        Check.river(x, "reach 9 0 5");
        for (int k = 0; k < 8; k++) {
            check.due("a faulty one", Check.card(x, 1, 0, put(longest(), 119, 'z')), fault(119));
            check.due("card(1, 0)", Check.card(x, 1, 0, longest()), k);
            x.hang(0, k);
            x.level(0, 5);
            check.due("boards(0) at 5 by CARD " + k, x.boards(0), 2);
            x.level(0, 4);
            check.due("boards(0) at 4 by CARD " + k, x.boards(0), 0);
        }
    }

    private static void faultyIsNoCard() {
        check.about("is a CARD: its number; -10 less the FAULT");
        SluiceCards x = new SluiceCards();
        Check.river(x, "reach 9 0 5");
        check.due("the first", Check.card(x, 1, 3, "0 if l<9;1 if l=9"), 0);
        x.hang(0, 0);
        check.due("a faulty one", Check.card(x, 1, 2, "2 if l<9;2 if l=9;x"), fault(18));
        check.due("count(1)", x.count(1), 1);
        check.due("told(1, 0)", x.told(1, 0), -1);
        check.due("told(0, 2)", x.told(0, 2), 2);
        check.due("boards(0)", x.boards(0), 0);
        check.due("the next one", Check.card(x, 1, 2, "2 if l<9"), 1);
        check.due("boards(0)", x.boards(0), 0);
        x.hang(0, 1);
        check.due("boards(0)", x.boards(0), 2);
        // with all eight there even a faulty text is FULL, not read
        SluiceCards y = eight();
        Check.feed(y, "x");
        check.due("a ninth, faulty", y.card(0, 0), -4);
    }

    private static void kinds() {
        check.about("each of a KIND: 0 .. 6; NONE: kind");
        int[] none = {-1, -2, 7, 8, Integer.MIN_VALUE, Integer.MAX_VALUE};
        SluiceCards x = new SluiceCards();
        Check.feed(x, LINE);
        for (int kind : none) check.due("card(" + kind + ", 0)", x.card(kind, 0), -1);
        check.due("count(3)", x.count(3), 8);
        check.due("card(0, 0)", x.card(0, 0), 0);
        for (int kind = 1; kind <= 6; kind++) check.due("card(" + kind + ", 0)", Check.card(x, kind, 0, LINE), kind);
        for (int kind = 0; kind <= 6; kind++) check.due("told(" + kind + ", 0)", x.told(kind, 0), kind);
    }

    private static void numbersV() {
        check.about("a number v (0 .. 3); BAD: v");
        int[] bad = {-1, -2, 4, 5, Integer.MIN_VALUE, Integer.MAX_VALUE};
        SluiceCards x = new SluiceCards();
        Check.feed(x, LINE);
        for (int v : bad) check.due("card(0, " + v + ")", x.card(0, v), -2);
        check.due("count(3)", x.count(3), 8);
        check.due("card(0, 0)", x.card(0, 0), 0);
        for (int v = 1; v <= 3; v++) check.due("card(0, " + v + ")", Check.card(x, 0, v, LINE), v);
        for (int v = 0; v <= 3; v++) check.due("told(" + v + ", 1)", x.told(v, 1), v);
    }

    private static void stays() {
        check.about("FULL (THE TAPE stays with all three)");
        int[][] refused = {{7, 0}, {-1, 0}, {0, 4}, {0, -1}};
        for (int[] r : refused) {
            SluiceCards x = new SluiceCards();
            Check.feed(x, "3 if h=0");
            check.due("card(" + r[0] + ", " + r[1] + ") < 0", x.card(r[0], r[1]) < 0 ? 1 : 0, 1);
            check.due("count(3)", x.count(3), 8);
            check.due("more comes behind it", x.feed(Check.word(";x", 0, 2), 2), 10);
            check.due("card(0, 0)", x.card(0, 0), fault(9));
        }
        SluiceCards x = eight();
        Check.feed(x, "reach 4 1 2");
        check.due("card(0, 0)", x.card(0, 0), -4);
        check.due("count(3)", x.count(3), 11);
        check.due("river()", x.river(), 1);
    }

    private static void firstOneTold() {
        check.about("NONE: kind; BAD: v; FULL, of several the first one told");
        SluiceCards x = new SluiceCards();
        check.due("card(7, 4): NONE ahead of BAD", x.card(7, 4), -1);
        check.due("card(7, 0) of an empty tape", x.card(7, 0), -1);
        check.due("card(0, 4) of an empty tape", x.card(0, 4), -2);
        SluiceCards y = eight();
        check.due("card(-1, 0): NONE ahead of FULL", y.card(-1, 0), -1);
        check.due("card(0, -1): BAD ahead of FULL", y.card(0, -1), -2);
        check.due("card(-1, -1): NONE ahead of both", y.card(-1, -1), -1);
        check.due("card(0, 0) of an empty tape", y.card(0, 0), -4);
    }
}
