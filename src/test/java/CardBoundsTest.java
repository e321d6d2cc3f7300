/** Promises 5, 6 and 10 and what Terms 1 says of TESTS, BOARDS by a CARD and THE BELL: each sentence that names a bound. */
public final class CardBoundsTest {
    private static final Check check = new Check();
    private static final String NEVER = "3 if l>9", ALWAYS = " if l<9|l=9";

    public static void main(String[] args) {
        tests();
        kinds();
        bell();
        told();
        hang();
        boards();
        check.end("CardBoundsTest");
    }

    /** A river of one reach with a high bank; no card hangs. */
    private static SluiceCards river(int level) {
        SluiceCards x = new SluiceCards();
        Check.river(x, "reach 9 0 " + level);
        return x;
    }

    /** One reach of level 0 whose boards are as told, stood still in the hour before; the hour is 1. */
    private static SluiceCards were(int boards) {
        SluiceCards x = river(0);
        x.hang(0, Check.card(x, 0, boards, NEVER));
        x.hour(0);
        return x;
    }

    /** One reach that rose to level 1 while its boards were as told; the hour is 1. */
    private static SluiceCards rose(int boards) {
        SluiceCards x = river(0);
        x.hang(0, Check.card(x, 0, boards, NEVER));
        x.hour(1);
        return x;
    }

    /** One reach that fell to level 1 with one of its boards set; the hour is 1. */
    private static SluiceCards fell() {
        SluiceCards x = river(2);
        x.hang(0, Check.card(x, 0, 1, NEVER));
        x.hour(0);
        return x;
    }

    private static int boardsBy(SluiceCards x, int kind, int v, String text) {
        x.hang(0, Check.card(x, kind, v, text));
        return x.boards(0);
    }

    private static void holds(SluiceCards x, String test, boolean due) {
        check.due(test, boardsBy(x, 1, 0, "1 if " + test), due ? 1 : 0);
        // room for the next card
        if (x.count(1) == 8) x.undo();
    }

    private static void compares(SluiceCards x, char what, int seen) {
        x.image();
        for (int digit = 0; digit <= 9; digit++) {
            holds(x, what + "<" + digit, seen < digit);
            holds(x, what + "=" + digit, seen == digit);
            holds(x, what + ">" + digit, seen > digit);
        }
    }

    // ---- TESTS

    private static void tests() {
        levels();
        ownLevel();
        hours();
        ways();
        bells();
        afterRefusedLevel();
    }

    private static void levels() {
        for (int level = 0; level <= 9; level++) {
            check.about("l the LEVEL of the own REACH, " + level);
            compares(river(level), 'l', level);
        }
    }

    private static void ownLevel() {
        check.about("l the LEVEL of the own REACH, w the way it went");
        SluiceCards x = new SluiceCards();
        Check.river(x, "reach 9 0 0;reach 9 0 9;reach 9 0 4");
        int card = Check.card(x, 1, 0, "1 if l=0;2 if l=9;3 if l=4");
        for (int reach = 0; reach < 3; reach++) {
            x.hang(reach, card);
            check.due("boards(" + reach + ")", x.boards(reach), reach + 1);
        }
        for (int reach = 0; reach < 3; reach++) x.hang(reach, -1);
        x.hour(4);
        card = Check.card(x, 1, 0, "1 if w=1;2 if w=2;3 if w=0");
        int[] due = {1, 1, 2};
        for (int reach = 0; reach < 3; reach++) {
            x.hang(reach, card);
            check.due("boards(" + reach + ") by the way", x.boards(reach), due[reach]);
        }
    }

    private static void hours() {
        int[] hours = {0, 1, 8, 9, 10, 98, 99};
        for (int hour : hours) {
            check.about("h the HOUR, " + hour);
            SluiceCards x = river(0);
            for (int k = 0; k < hour; k++) x.hour(0);
            compares(x, 'h', hour);
        }
    }

    private static void ways() {
        check.about("w the way it went in the HOUR before: 1 stood (also at first)");
        compares(river(4), 'w', 1);
        check.about("w .. 0 fell");
        compares(fell(), 'w', 0);
        check.about("w .. 1 stood");
        compares(were(0), 'w', 1);
        check.about("w .. 2 rose");
        compares(rose(0), 'w', 2);
        check.about("w: a bank gone over, it stood");
        SluiceCards x = river(9);
        x.hour(1);
        compares(x, 'w', 1);
        check.about("w: as much came as went, it stood");
        SluiceCards y = river(5);
        y.hang(0, Check.card(y, 0, 1, NEVER));
        y.hour(1);
        compares(y, 'w', 1);
        check.about("w: level() makes it 1");
        SluiceCards z = rose(0);
        z.level(0, 9);
        compares(z, 'w', 1);
        check.about("w: the HOUR before alone");
        SluiceCards two = rose(0);
        two.hour(0);
        compares(two, 'w', 1);
    }

    private static void bells() {
        check.about("c 1 if the BELL rings, else 0");
        compares(river(9), 'c', 1);
        compares(river(8), 'c', 0);
    }

    private static void afterRefusedLevel() {
        check.about("w: a refused level() leaves it");
        SluiceCards x = rose(0);
        x.level(0, 10);
        x.level(0, -1);
        compares(x, 'w', 2);
    }

    // ---- BOARDS by a CARD

    private static void kinds() {
        card();
        level();
        rising();
        risingThreeAtMost();
        slow();
        slowAsRising();
        toldTurns();
        stuck();
        withoutACard();
    }

    private static void card() {
        check.about("CARD: v");
        for (int v = 0; v <= 3; v++) {
            check.due("v " + v, boardsBy(river(9), 0, v, "0" + ALWAYS), v);
            check.due("v " + v, boardsBy(rose(3 - v), 0, v, "1 if w=2"), v);
        }
    }

    private static void level() {
        check.about("LEVEL: those of the first LINE whose E holds (v without)");
        for (int first = 0; first < 6; first++) {
            StringBuilder text = new StringBuilder();
            for (int line = 0; line < 6; line++) {
                if (line > 0) text.append(';');
                text.append(line % 4).append(line < first ? " if l=4" : " if l=5");
            }
            check.due("line " + first + " is the first", boardsBy(river(5), 1, 3, text.toString()), first % 4);
        }
        for (int v = 0; v <= 3; v++) {
            check.due("none holds, v " + v, boardsBy(river(5), 1, v, "1 if l=4;2 if l=4;3 if l=4;0 if l=4;1 if l=4;2 if l=4"), v);
            check.due("none holds, v " + v + ", it rose", boardsBy(rose(0), 1, v, NEVER), v);
        }
    }

    private static void rising() {
        check.about("RISING: as LEVEL, and 1 more, if the way is 2");
        for (int b = 0; b <= 2; b++) {
            check.due(b + ", rose", boardsBy(rose(0), 2, 3 - b, b + ALWAYS), b + 1);
            check.due(b + ", v, rose", boardsBy(rose(0), 2, b, NEVER), b + 1);
            check.due(b + ", stood", boardsBy(were(0), 2, 3 - b, b + ALWAYS), b);
            check.due(b + ", v, stood", boardsBy(were(0), 2, b, NEVER), b);
            check.due(b + ", fell", boardsBy(fell(), 2, 3 - b, b + ALWAYS), b);
            check.due(b + ", at first", boardsBy(river(5), 2, 3 - b, b + ALWAYS), b);
        }
    }

    private static void risingThreeAtMost() {
        check.about("RISING: .. 1 more (3 at most)");
        check.due("3, rose", boardsBy(rose(0), 2, 0, "3" + ALWAYS), 3);
        check.due("v 3, rose", boardsBy(rose(0), 2, 3, NEVER), 3);
        check.due("3, stood", boardsBy(were(0), 2, 0, "3" + ALWAYS), 3);
    }

    private static void slow() {
        check.about("SLOW: .. no more than 1 from what they were");
        int[][] due = {{0, 1, 1, 1}, {0, 1, 2, 2}, {1, 1, 2, 3}, {2, 2, 2, 3}};
        for (int were = 0; were <= 3; were++) {
            for (int to = 0; to <= 3; to++) {
                check.due("from " + were + " to " + to, boardsBy(were(were), 3, 3 - to, to + ALWAYS), due[were][to]);
                check.due("from " + were + " to v " + to, boardsBy(were(were), 3, to, NEVER), due[were][to]);
            }
        }
    }

    private static void slowAsRising() {
        check.about("SLOW: as RISING, but no more than 1 from what they were");
        // to, and 1 more (3 at most), held by what they were
        int[][] due = {{1, 1, 1, 1}, {1, 2, 2, 2}, {1, 2, 3, 3}, {2, 2, 3, 3}};
        for (int were = 0; were <= 3; were++) {
            for (int to = 0; to <= 3; to++) check.due("rose, from " + were + " to " + to, boardsBy(rose(were), 3, 0, to + ALWAYS), due[were][to]);
        }
    }

    private static void toldTurns() {
        check.about("TOLD: the digits of its LINES in turn, that of the HOUR modulo how many there are (E aside; v without)");
        String[] lines = {"3 if l>9", "0 if l<9|l=9", "2 if l>9", "1 if l>9", "0 if l>9", "3 if l>9"};
        int[] digits = {3, 0, 2, 1, 0, 3};
        for (int many = 1; many <= 6; many++) {
            SluiceCards x = river(0);
            StringBuilder text = new StringBuilder(lines[0]);
            for (int k = 1; k < many; k++) text.append(';').append(lines[k]);
            x.hang(0, Check.card(x, 5, 1, text.toString()));
            for (int hour = 0; hour <= 99; hour++) {
                check.due(many + " LINES, HOUR " + hour, x.boards(0), digits[hour % many]);
                x.hour(0);
            }
        }
    }

    private static void stuck() {
        check.about("STUCK: as TOLD in even HOURS; as they were in odd ones");
        for (int were = 0; were <= 3; were++) {
            SluiceCards x = were(were);
            x.hang(0, Check.card(x, 6, 0, "1 if l=0;2 if l=0;3 if l=0"));
            check.due("HOUR 1", x.boards(0), were);
            x.hour(0);
            check.due("HOUR 2: its third LINE", x.boards(0), 3);
            x.hour(0);
            check.due("HOUR 3", x.boards(0), 3);
            x.hour(0);
            check.due("HOUR 4: its second LINE", x.boards(0), 2);
        }
        SluiceCards x = river(0);
        x.hang(0, Check.card(x, 6, 3, "2 if l>9;1 if l>9"));
        check.due("HOUR 0", x.boards(0), 2);
        for (int hour = 0; hour < 99; hour++) x.hour(0);
        check.due("HOUR 99", x.boards(0), 2);
    }

    private static void withoutACard() {
        check.about("Without a CARD: as they were");
        check.due("at first", river(9).boards(0), 0);
        for (int were = 0; were <= 3; were++) {
            SluiceCards x = were(were);
            x.hang(0, -1);
            check.due("boards(0)", x.boards(0), were);
            x.hour(0);
            check.due("BOARDS", x.of(0, 3), were);
            check.due("boards(0) an hour on", x.boards(0), were);
        }
    }

    // ---- THE BELL

    private static void bell() {
        bellAtItsBank();
        bellOfReach0();
        bellAsTheHourBegins();
        bellKind();
    }

    private static void bellAtItsBank() {
        check.about("THE BELL rings in an HOUR, if the LEVEL of REACH 0 is its BANK");
        for (int bank = 1; bank <= 9; bank++) {
            SluiceCards x = new SluiceCards();
            Check.river(x, "reach " + bank + " 0 0");
            for (int level = 0; level <= bank; level++) {
                x.level(0, level);
                check.due("LEVEL " + level + " of " + bank, x.stream(4), level == bank ? 1 : 0);
            }
        }
    }

    private static void bellOfReach0() {
        check.about("THE BELL rings .. REACH 0");
        SluiceCards x = new SluiceCards();
        Check.river(x, "reach 5 0 4;reach 4 0 4;reach 5 0 5");
        int card = Check.card(x, 4, 1, NEVER);
        for (int reach = 0; reach < 3; reach++) x.hang(reach, card);
        check.due("stream(4)", x.stream(4), 0);
        for (int reach = 0; reach < 3; reach++) check.due("boards(" + reach + ")", x.boards(reach), 1);
        x.level(0, 5);
        x.level(1, 0);
        x.level(2, 0);
        check.due("stream(4)", x.stream(4), 1);
        for (int reach = 0; reach < 3; reach++) check.due("boards(" + reach + ")", x.boards(reach), 3);
    }

    private static void bellAsTheHourBegins() {
        check.about("THE BELL rings in an HOUR, if .. as that begins");
        SluiceCards x = new SluiceCards();
        Check.river(x, "reach 5 0 4");
        x.hang(0, Check.card(x, 4, 0, NEVER));
        x.hour(1);
        check.due("it is not at its BANK as the HOUR begins: BOARDS", x.of(0, 3), 0);
        check.due("LEVEL", x.of(0, 0), 5);
        check.due("stream(4)", x.stream(4), 1);
        x.hour(0);
        check.due("it rings: BOARDS", x.of(0, 3), 3);
        check.due("LEVEL", x.of(0, 0), 2);
        check.due("stream(4)", x.stream(4), 0);
    }

    private static void bellKind() {
        check.about("BELL: as LEVEL; 3, if the BELL rings");
        for (int b = 0; b <= 3; b++) {
            check.due(b + ", it rings", boardsBy(river(9), 4, b, b + ALWAYS), 3);
            check.due(b + ", it doesn't", boardsBy(river(8), 4, 3 - b, b + ALWAYS), b);
            check.due("v " + b + ", it doesn't", boardsBy(river(8), 4, b, NEVER), b);
            check.due(b + ", it rose", boardsBy(rose(0), 4, 3 - b, b + ALWAYS), b);
        }
        int[] others = {0, 1, 2, 3, 5, 6};
        for (int kind : others) check.due("KIND " + kind + ", it rings", boardsBy(river(9), kind, 1, "1" + ALWAYS), 1);
    }

    // ---- told, hang, boards

    private static SluiceCards eight(SluiceCards x) {
        for (int k = 0; k < 8; k++) Check.card(x, k % 7, k % 4, "1 if l=1" + Check.times(";2 if l=2", k % 6));
        return x;
    }

    private static void told() {
        check.about("told: NONE");
        int[] outside = {-1, -2, 8, 9, 100, Integer.MIN_VALUE, Integer.MAX_VALUE};
        int[] whats = {-1, -2, 3, 4, 100, Integer.MIN_VALUE, Integer.MAX_VALUE};
        SluiceCards x = eight(new SluiceCards());
        for (int card : outside) {
            for (int what = 0; what < 3; what++) check.due("told(" + card + ", " + what + ")", x.told(card, what), -1);
        }
        for (int what : whats) check.due("told(7, " + what + ")", x.told(7, what), -1);
        for (int card = 0; card < 8; card++) {
            int[] due = {card % 7, card % 4, 1 + card % 6};
            for (int what = 0; what < 3; what++) check.due("told(" + card + ", " + what + ")", x.told(card, what), due[what]);
        }
        SluiceCards none = new SluiceCards();
        for (int what = -1; what < 4; what++) check.due("told(0, " + what + ") without cards", none.told(0, what), -1);
        Check.card(none, 0, 0, NEVER);
        check.due("told(0, 0)", none.told(0, 0), 0);
        check.due("told(1, 0)", none.told(1, 0), -1);
    }

    private static void hang() {
        hangOutside();
        hangWhichDid();
    }

    private static void hangOutside() {
        check.about("hang: NONE (of a REACH: without a RIVER, too)");
        int[] reaches = {-1, -2, 2, 3, 100, Integer.MIN_VALUE, Integer.MAX_VALUE}, cards = {-2, -3, 8, 9, 100, Integer.MIN_VALUE, Integer.MAX_VALUE};
        SluiceCards x = eight(new SluiceCards());
        for (int card = -1; card < 8; card++) check.due("hang(0, " + card + ") without a river", x.hang(0, card), -1);
        Check.river(x, "reach 4 0 1;reach 4 0 1");
        check.due("hang(1, 7)", x.hang(1, 7), -5);
        for (int reach : reaches) {
            check.due("hang(" + reach + ", 0)", x.hang(reach, 0), -1);
            check.due("hang(" + reach + ", -1)", x.hang(reach, -1), -1);
            check.due("hang(" + reach + ", 8)", x.hang(reach, 8), -1);
        }
        for (int card : cards) check.due("hang(1, " + card + ")", x.hang(1, card), -1);
        check.due("what hung hangs", x.hang(1, -1), 7);
        SluiceCards none = new SluiceCards();
        Check.river(none, "reach 4 0 1");
        check.due("hang(0, 0) without cards", none.hang(0, 0), -1);
        check.due("hang(0, -1) without cards", none.hang(0, -1), -5);
    }

    private static void hangWhichDid() {
        check.about("A CARD hangs at a REACH (-1: none): which did (-5: none)");
        SluiceCards x = eight(new SluiceCards());
        Check.river(x, "reach 4 0 1;reach 4 0 1;reach 4 0 1");
        for (int reach = 0; reach < 3; reach++) {
            check.due("the first", x.hang(reach, 0), -5);
            for (int card = 1; card < 8; card++) check.due("which did", x.hang(reach, card), card - 1);
            check.due("the same again", x.hang(reach, 7), 7);
        }
        for (int reach = 0; reach < 3; reach++) {
            check.due("none any more", x.hang(reach, -1), 7);
            check.due("none again", x.hang(reach, -1), -5);
            check.due("one again", x.hang(reach, 0), -5);
        }
    }

    private static void boards() {
        check.about("boards: NONE (of a REACH: without a RIVER, too)");
        int[] outside = {-1, -2, 2, 3, 100, Integer.MIN_VALUE, Integer.MAX_VALUE};
        SluiceCards x = eight(new SluiceCards());
        for (int reach = -1; reach < 3; reach++) check.due("boards(" + reach + ") without a river", x.boards(reach), -1);
        Check.river(x, "reach 4 0 1;reach 4 0 1");
        for (int reach : outside) check.due("boards(" + reach + ")", x.boards(reach), -1);
        check.about("BOARDS of a REACH by its CARD now");
        x.hang(1, 3);
        x.level(1, 0);
        check.due("boards(1): SLOW to its v, 3, one at a time", x.boards(1), 1);
        check.due("boards(1) again", x.boards(1), 1);
        check.due("BOARDS are not set by it", x.of(1, 3), 0);
        check.due("the HOUR", x.stream(3), 0);
    }
}
