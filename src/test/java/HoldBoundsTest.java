/** Promises 14 to 22 and what Terms 2 says of whether CARDS HOLD: each sentence that names a bound. */
public final class HoldBoundsTest {
    private static final Check check = new Check();
    private static final String NEVER = "3 if l>9";
    private static final int[] FAR = {-100, 100, Integer.MIN_VALUE, Integer.MIN_VALUE + 1, Integer.MAX_VALUE};
    private static final long NO = Long.MIN_VALUE;

    public static void main(String[] args) {
        holds();
        fails();
        fixed();
        found();
        lines();
        drunk();
        sleep();
        raised();
        mean();
        meanBounds();
        thirst();
        same();
        bellWorth();
        check.end("HoldBoundsTest");
    }

    private static SluiceCards river(String text) {
        SluiceCards x = new SluiceCards();
        check.due("river() of " + text, Check.river(x, text), text.split("reach").length - 1);
        return x;
    }

    private static int hang(SluiceCards x, int reach, int kind, int v, String text) {
        int card = Check.card(x, kind, v, text);
        x.hang(reach, card);
        return card;
    }

    // ---- CARDS HOLD, FAILS

    private static void holds() {
        holdsBySpanAndSum();
        holdsBySumOfAllReaches();
        holdsOfAnyReach();
        holdsFromNowOn();
        holdsWithoutRain();
        holdsState();
    }

    private static int hours(int span) {
        return span == 0 ? 1 : Math.min(span, 3);
    }

    private static void holdsBySpanAndSum() {
        check.about("CARDS HOLD, if by no RAIN of span HOURS with RAIN of sum at most a bank is gone over; FAILS: .. in the fewest HOURS");
        for (int span = 0; span <= 9; span++) {
            for (int sum = 0; sum <= 9; sum++) {
                SluiceCards x = river("span " + span + ";sum " + sum + ";reach 9 0 0");
                for (int level = 0; level <= 9; level++) {
                    int needed = 10 - level;
                    boolean hold = needed > Math.min(hours(span), sum);
                    String at = " of span " + span + ", sum " + sum + ", LEVEL " + level;
                    x.level(0, level);
                    check.due("holds()" + at, x.holds(), hold ? 1 : 0);
                    check.due("fails(-1)" + at, x.fails(-1), hold ? -5 : needed);
                    for (int i = 0; i < 3; i++) check.due("fails(" + i + ")" + at, x.fails(i), hold || i >= needed ? -5 : 1);
                }
            }
        }
    }

    private static void holdsBySumOfAllReaches() {
        check.about("sum: the most RAIN in all (of all REACHES and HOURS)");
        int[] due = {1, 1, 0, 0, 0, 0, 0, 0, 0, 0};
        for (int sum = 0; sum <= 9; sum++) {
            // one falls above and runs down in the hour behind, in which one must fall below
            SluiceCards x = river("reach 9 0 0;reach 2 0 1;span 2;sum " + sum);
            hang(x, 0, 0, 3, NEVER);
            check.due("holds() of sum " + sum, x.holds(), due[sum]);
            int[] fails = {2, 1, 2, -5};
            for (int i = -1; i < 3; i++) check.due("fails(" + i + ")", x.fails(i), due[sum] == 1 ? -5 : fails[i + 1]);
        }
    }

    private static void holdsOfAnyReach() {
        check.about("a bank is gone over");
        for (int reach = 0; reach < 3; reach++) {
            SluiceCards x = river("reach 9 0 0;reach 9 0 0;reach 9 0 0;span 1");
            check.due("holds()", x.holds(), 1);
            x.level(reach, 9);
            check.due("holds(), REACH " + reach + " at its BANK", x.holds(), 0);
            check.due("fails(0)", x.fails(0), 1 << reach);
            x.level(reach, 8);
            check.due("holds(), REACH " + reach + " below it", x.holds(), 1);
        }
    }

    private static void holdsFromNowOn() {
        check.about("(from now on)");
        SluiceCards x = river("reach 5 0 3;span 2");
        check.due("holds()", x.holds(), 1);
        x.hour(1);
        check.due("an hour of RAIN on", x.holds(), 0);
        x.hour(1);
        check.due("a bank is gone over", x.hour(1), 1);
        hang(x, 0, 0, 1, NEVER);
        check.due("what was gone over before doesn't count", x.holds(), 1);
        // by the HOUR now, the BOARDS now and the way now
        SluiceCards y = river("reach 5 0 5;span 1");
        hang(y, 0, 1, 0, "1 if h=1");
        check.due("HOUR 0", y.holds(), 0);
        y.hour(0);
        check.due("HOUR 1", y.holds(), 1);
        y.hour(0);
        check.due("HOUR 2", y.holds(), 1);
        y.level(0, 5);
        check.due("HOUR 2, at its BANK", y.holds(), 0);
        y.hang(0, -1);
        check.due("BOARDS now 1", y.holds(), 1);
        SluiceCards way = river("reach 5 0 4;span 1");
        way.hour(1);
        hang(way, 0, 1, 0, "1 if w=2");
        check.due("it rose", way.holds(), 1);
        way.level(0, 5);
        check.due("told its LEVEL it stood", way.holds(), 0);
        // at HOUR 99 too
        SluiceCards z = river("reach 5 0 4;span 2");
        for (int k = 0; k < 99; k++) z.hour(0);
        check.due("at HOUR 99", z.holds(), 0);
        hang(z, 0, 5, 0, "0 if l=0;1 if l=0");
        check.due("at HOUR 99, then 100: one runs out in 99", z.holds(), 1);
        z.level(0, 5);
        check.due("at HOUR 99 and its BANK, 100 lets none out", z.holds(), 0);
        check.due("fails(-1)", z.fails(-1), 2);
    }

    private static void holdsWithoutRain() {
        check.about("RAIN of sum at most: none at all, too");
        SluiceCards x = river("reach 9 0 9;reach 3 0 0;sum 0");
        hang(x, 0, 0, 1, NEVER);
        check.due("three run in", x.holds(), 1);
        x.level(1, 1);
        check.due("three run in above 1", x.holds(), 0);
        int[] three = {3, 0, 0, 0};
        for (int i = -1; i < 3; i++) check.due("fails(" + i + ")", x.fails(i), three[i + 1]);
    }

    private static void holdsState() {
        check.about("holds: STATE");
        SluiceCards x = new SluiceCards();
        check.due("without a river", x.holds(), -3);
        Check.river(x, "reach 0 1 1");
        check.due("without one still", x.holds(), -3);
        Check.river(x, "reach 9 0 0");
        check.due("with one", x.holds(), 1);
    }

    private static void fails() {
        failsBounds();
        failsFewestHours();
        failsFirstAsARow();
        failsWithinTheSum();
        failsByRainOnAll();
    }

    private static void failsBounds() {
        check.about("i -1 how many HOURS; else (0 .. 2) RAIN of the i-th; -5: CARDS HOLD, or there are fewer HOURS. NONE: i; STATE");
        SluiceCards none = new SluiceCards(), hold = river("reach 9 0 0"), fail = river("reach 9 0 8");
        int[] outside = {-2, -3, 3, 4};
        for (SluiceCards x : new SluiceCards[] {none, hold, fail}) {
            for (int i : outside) check.due("fails(" + i + ")", x.fails(i), -1);
            for (int i : FAR) check.due("fails(" + i + ")", x.fails(i), -1);
        }
        int[] two = {2, 1, 1, -5};
        for (int i = -1; i <= 2; i++) {
            check.due("without a river: fails(" + i + ")", none.fails(i), -3);
            check.due("CARDS HOLD: fails(" + i + ")", hold.fails(i), -5);
            check.due("fails(" + i + ")", fail.fails(i), two[i + 1]);
        }
    }

    private static void failsFewestHours() {
        check.about("FAILS: the RAIN by which one is in the fewest HOURS");
        // REACH 0 would be gone over first as a row, but two hours later than REACH 2
        SluiceCards x = river("reach 3 0 1;reach 9 0 0;reach 3 0 3");
        int[] one = {1, 4, -5, -5};
        for (int i = -1; i <= 2; i++) check.due("fails(" + i + ")", x.fails(i), one[i + 1]);
        x.level(2, 2);
        int[] two = {2, 4, 4, -5};
        for (int i = -1; i <= 2; i++) check.due("fails(" + i + ")", x.fails(i), two[i + 1]);
        x.level(2, 1);
        int[] three = {3, 1, 1, 1};
        for (int i = -1; i <= 2; i++) check.due("fails(" + i + ")", x.fails(i), three[i + 1]);
    }

    private static void failsFirstAsARow() {
        check.about("of several the first as a row of bits (HOUR by HOUR, each as a number)");
        int[][] levels = {{5, 5, 5}, {4, 5, 5}, {4, 4, 5}};
        for (int[] level : levels) {
            SluiceCards x = river("reach 5 0 " + level[0] + ";reach 5 0 " + level[1] + ";reach 5 0 " + level[2]);
            int first = level[0] == 5 ? 1 : level[1] == 5 ? 2 : 4;
            check.due("fails(0)", x.fails(0), first);
        }
        failsRow("1 if h=0", 5, 2, 1, 1, -5);
        failsRow("2 if h=0", 5, 3, 1, 1, 1);
        // without rain at first it falls, so that the second hour lets none out: that row comes first
        failsRow("1 if h=0;1 if h=1&w=1", 5, 3, 0, 1, 1);
    }

    /** One reach at its bank, with a card LEVEL: fails(-1), and 0 to 2. */
    private static void failsRow(String text, int bank, int... due) {
        SluiceCards x = river("reach " + bank + " 0 " + bank);
        hang(x, 0, 1, 0, text);
        for (int i = -1; i <= 2; i++) check.due(text + ": fails(" + i + ")", x.fails(i), due[i + 1]);
    }

    private static void failsByRainOnAll() {
        check.about("FAILS: .. of several the first as a row of bits (HOUR by HOUR, each as a number)");
        // all runs down into a last REACH that keeps it: what falls on REACH 0 is there two HOURS later, on 1 one HOUR later
        int[][] due = {{2, 2, 4, -5}, {2, 6, 4, -5}, {3, 1, 6, 4}, {3, 3, 6, 4}, {3, 7, 6, 4}};
        for (int bank = 1; bank <= 5; bank++) {
            for (int sum = 0; sum <= 9; sum++) {
                SluiceCards x = river("reach 9 0 0;reach 9 0 0;reach " + bank + " 0 0;sum " + sum);
                for (int reach = 0; reach < 2; reach++) hang(x, reach, 0, 3, NEVER);
                boolean hold = sum <= bank;
                String at = " of a BANK " + bank + ", sum " + sum;
                check.due("holds()" + at, x.holds(), hold ? 1 : 0);
                for (int i = -1; i < 3; i++) check.due("fails(" + i + ")" + at, x.fails(i), hold ? -5 : due[bank - 1][i + 1]);
            }
        }
    }

    private static void failsWithinTheSum() {
        check.about("with RAIN of sum at most .. of several the first as a row of bits");
        int[][] due = {{-5, -5, -5, -5}, {3, 1, 0, 0}, {3, 1, 0, 0}, {3, 0, 3, 2}, {3, 0, 3, 2}};
        for (int sum = 0; sum < due.length; sum++) {
            SluiceCards x = river("reach 9 0 3;reach 5 0 4;sum " + sum);
            // rain above in HOUR 0 alone lets 3 down in HOUR 2; in HOUR 1 alone only 1, so that below two more must fall
            hang(x, 0, 1, 0, "3 if h=2&w=1&l=4;1 if h=2&w=2&l=4");
            hang(x, 1, 1, 0, "1 if h=0");
            for (int i = -1; i <= 2; i++) check.due("sum " + sum + ": fails(" + i + ")", x.fails(i), due[sum][i + 1]);
        }
    }

    // ---- FIXED

    private static void fixed() {
        fixedBounds();
        fixedRows();
        fixedNone();
    }

    private static void fixedBounds() {
        check.about("fixed: i -1 how many rows; else the BOARDS of REACH i in the first one. NONE; STATE");
        SluiceCards none = new SluiceCards();
        check.due("without a river: fixed(-1)", none.fixed(-1), -3);
        for (int i = 0; i < 3; i++) check.due("without a river: fixed(" + i + ")", none.fixed(i), -1);
        check.due("without a river: fixed(-2)", none.fixed(-2), -1);
        for (int i : FAR) check.due("without a river: fixed(" + i + ")", none.fixed(i), -1);
        for (int reaches = 1; reaches <= 3; reaches++) {
            SluiceCards x = river("reach 9 0 0" + Check.times(";reach 9 0 0", reaches - 1));
            check.due("fixed(-1)", x.fixed(-1), 1 << 2 * reaches);
            check.due("fixed(-2)", x.fixed(-2), -1);
            for (int i = 0; i < reaches; i++) check.due("fixed(" + i + ")", x.fixed(i), 0);
            for (int i = reaches; i < 5; i++) check.due("fixed(" + i + ")", x.fixed(i), -1);
            for (int i : FAR) check.due("fixed(" + i + ")", x.fixed(i), -1);
        }
    }

    private static void fixedRows() {
        check.about("FIXED: how many rows of BOARDS (one for each REACH, never changed) HOLD; the first as a row");
        // all full: each must let out 1 more than the one above
        SluiceCards x = river("reach 3 0 3;reach 3 0 3;reach 3 0 3");
        int[] one = {1, 1, 2, 3};
        for (int i = -1; i < 3; i++) check.due("fixed(" + i + ")", x.fixed(i), one[i + 1]);
        // the middle one may be fuller by 1 each hour for one hour
        SluiceCards y = river("reach 9 0 0;reach 3 0 3;reach 9 0 0;span 1");
        check.due("fixed(-1): 4 above, 3 between, 4 below", y.fixed(-1), 48);
        int[] first = {0, 1, 0};
        for (int i = 0; i < 3; i++) check.due("fixed(" + i + ")", y.fixed(i), first[i]);
        // cards and BOARDS now are aside
        hang(y, 1, 0, 0, NEVER);
        hang(y, 0, 0, 3, NEVER);
        y.hour(0);
        y.level(0, 0);
        y.level(1, 3);
        y.level(2, 0);
        check.due("fixed(-1), cards and BOARDS aside", y.fixed(-1), 48);
        for (int i = 0; i < 3; i++) check.due("fixed(" + i + ")", y.fixed(i), first[i]);
        check.due("BOARDS stay", y.of(0, 3), 3);
    }

    private static void fixedNone() {
        check.about("fixed: (-5: there is none)");
        SluiceCards x = river("reach 1 0 1;reach 1 0 1;reach 9 0 0");
        check.due("fixed(-1)", x.fixed(-1), 0);
        for (int i = 0; i < 3; i++) check.due("fixed(" + i + ")", x.fixed(i), -5);
        check.due("fixed(3)", x.fixed(3), -1);
    }

    // ---- FOUND, LINES

    private static void found() {
        foundBounds();
        foundLeast();
        foundNone();
    }

    private static void foundBounds() {
        check.about("found: NONE (of a REACH: without a RIVER, too)");
        SluiceCards none = new SluiceCards(), x = river("reach 9 0 0;reach 9 0 0");
        Check.card(none, 0, 0, NEVER);
        for (int reach = -1; reach < 4; reach++) check.due("found(" + reach + ") without a river", none.found(reach), -1);
        int[] outside = {-1, -2, 2, 3};
        for (int reach : outside) check.due("found(" + reach + ")", x.found(reach), -1);
        for (int reach : FAR) check.due("found(" + reach + ")", x.found(reach), -1);
        check.due("found(1), no CARD", x.found(1), -5);
        hang(x, 1, 0, 3, NEVER);
        check.due("found(1)", x.found(1), 0);
        check.due("found(0), no CARD", x.found(0), -5);
    }

    private static void foundLeast() {
        check.about("FOUND of a REACH: the least v of its CARD with which, all else as it is, CARDS HOLD");
        // so much runs in from above that it needs as much, and 1 for the rain
        for (int above = 0; above <= 3; above++) {
            for (int v = 0; v <= 3; v++) {
                SluiceCards x = river("reach 9 0 9;reach 9 0 9;span 1;sum 1");
                hang(x, 0, 0, above, NEVER);
                hang(x, 1, 1, v, NEVER);
                int needed = above + 1;
                check.due("found(1), " + above + " above, v " + v, x.found(1), above == 0 || needed > 3 ? -5 : needed);
                x.level(0, 8);
                check.due("found(1), room above", x.found(1), needed > 3 ? -5 : needed);
                check.due("v stays", x.told(1, 1), v);
                check.due("found(0): all else as it is", x.found(0), v == 0 ? -5 : 0);
            }
        }
    }

    private static void foundNone() {
        check.about("FOUND .. (-5: none, or it has no CARD)");
        SluiceCards x = river("reach 5 0 5;span 1");
        hang(x, 0, 5, 3, "0 if l=0");
        check.due("TOLD has no use for v", x.found(0), -5);
        hang(x, 0, 6, 3, "1 if l=0");
        check.due("STUCK neither, it HOLDS", x.found(0), 0);
        hang(x, 0, 2, 3, "0 if l<9");
        check.due("a LINE holds always", x.found(0), -5);
        x.hang(0, -1);
        check.due("no CARD", x.found(0), -5);
        x.level(0, 0);
        check.due("no CARD though they HOLD", x.found(0), -5);
    }

    private static void lines() {
        linesBounds();
        linesSix();
        linesOfTurns();
        linesNone();
    }

    private static void linesBounds() {
        check.about("lines: NONE; STATE");
        SluiceCards x = new SluiceCards();
        check.due("lines(0), no card, no river", x.lines(0), -1);
        Check.card(x, 1, 0, NEVER);
        check.due("lines(0), no river", x.lines(0), -3);
        int[] outside = {-1, -2, 1, 7, 8};
        for (int card : outside) check.due("lines(" + card + "), no river", x.lines(card), -1);
        Check.river(x, "reach 9 0 0");
        for (int card : outside) check.due("lines(" + card + ")", x.lines(card), -1);
        for (int card : FAR) check.due("lines(" + card + ")", x.lines(card), -1);
        check.due("lines(0)", x.lines(0), 0);
        for (int k = 1; k < 8; k++) Check.card(x, 1, 0, NEVER);
        check.due("lines(7)", x.lines(7), 0);
        check.due("lines(8)", x.lines(8), -1);
    }

    private static void linesSix() {
        check.about("LINES of a CARD: those of which each alone must not be left out, or CARDS HOLD no more");
        String[] six = {"1 if l=5&h=0", "1 if l=5&h=1", "1 if l=5&h=2", "2 if l>7&h=0", "2 if l>7&h=1", "2 if l>7&h=2"};
        SluiceCards x = river("reach 5 0 5;reach 9 0 9");
        x.hang(1, hang(x, 0, 1, 0, String.join(";", six)));
        check.due("holds()", x.holds(), 1);
        check.due("all six", x.lines(0), 63);
        x.hour(3);
        check.due("an hour on they don't HOLD, in HOUR 3 no LINE does", x.lines(0), 0);
        // the sixth alone, and each other place
        for (int place = 0; place < 6; place++) {
            SluiceCards y = river("reach 5 0 5");
            hang(y, 0, 1, 0, Check.times("3 if l=9;", place) + "1 if l>0" + Check.times(";3 if l=9", 5 - place));
            check.due("LINE " + place + " alone", y.lines(0), 1 << place);
        }
    }

    private static void linesOfTurns() {
        check.about("LINES of a CARD: .. of which each alone must not be left out: those of TOLD behind it come a turn sooner");
        SluiceCards x = river("reach 5 0 5");
        // in three hours 1 1 1; without one of the first three 1 1 0; without the last 1 1 1
        hang(x, 0, 5, 0, "1 if l=0;1 if l=0;1 if l=0;0 if l=0");
        check.due("lines(0)", x.lines(0), 7);
        // 1 1 1 and 0 0 0: without one of the first three 1 1 0
        hang(x, 0, 5, 0, "1 if l=0;1 if l=0;1 if l=0;0 if l=0;0 if l=0;0 if l=0");
        check.due("lines(1)", x.lines(1), 7);
        SluiceCards y = river("reach 5 0 4;span 2");
        // 0 1 with room for one at first: without the first line 1 1, without the second 0 0
        hang(y, 0, 5, 0, "0 if l=0;1 if l=0");
        check.due("lines(0) of two", y.lines(0), 2);
        y.hang(0, -1);
        for (int k = 0; k < 4; k++) y.hour(0);
        // the last of six is the only one that isn't 0: told in HOUR 5, or in HOUR 4 if one ahead of it is left out
        hang(y, 0, 5, 0, "0 if l=0;0 if l=0;0 if l=0;0 if l=0;0 if l=0;1 if l=0");
        check.due("lines(1) in HOUR 4", y.lines(1), 32);
    }

    private static void linesNone() {
        check.about("LINES of a CARD: .. (none, if they don't HOLD as they are)");
        SluiceCards x = river("reach 5 0 5");
        hang(x, 0, 1, 0, "0 if l=5;1 if l>0");
        check.due("holds()", x.holds(), 0);
        check.due("without LINE 0 they would, but", x.lines(0), 0);
        hang(x, 0, 1, 0, "1 if l>0");
        check.due("they HOLD", x.lines(1), 1);
        check.due("a CARD that hangs nowhere", x.lines(0), 0);
        hang(x, 0, 5, 1, "1 if l>0;1 if l>0;1 if l>0");
        check.due("any one may be left out of three alike", x.lines(2), 0);
        hang(x, 0, 5, 0, "1 if l>9");
        check.due("TOLD by its one LINE; v 0 without", x.lines(3), 1);
        hang(x, 0, 6, 1, "1 if l>9");
        check.due("STUCK by its one LINE; v 1 without", x.lines(4), 0);
    }

    // ---- DRUNK, SLEEP

    private static void drunk() {
        check.about("drunk: NONE; STATE");
        SluiceCards none = new SluiceCards(), x = river("reach 9 0 0;reach 9 0 0;reach 9 0 0");
        int[] outside = {-1, -2, 2, 3};
        for (SluiceCards each : new SluiceCards[] {none, x}) {
            for (int what : outside) check.due("drunk(" + what + ")", each.drunk(what), -1);
            for (int what : FAR) check.due("drunk(" + what + ")", each.drunk(what), -1);
        }
        for (int what = 0; what <= 1; what++) {
            check.due("without a river: drunk(" + what + ")", none.drunk(what), -3);
            check.due("all of them: drunk(" + what + ")", x.drunk(what), 7);
        }
        check.about("DRUNK: REACHES of which each alone may keep its BOARDS as they are now for all HOURS, and CARDS (of the others) HOLD");
        for (int reach = 0; reach < 3; reach++) {
            SluiceCards y = river("reach 9 0 0;reach 9 0 0;reach 9 0 0");
            y.level(reach, 9);
            hang(y, reach, 0, 1, NEVER);
            check.due("all but REACH " + reach, y.drunk(0), 7 - (1 << reach));
            check.due("SLEEP", y.drunk(1), 7 - (1 << reach));
            y.hour(0);
            y.level(reach, 9);
            check.due("its BOARDS now are 1", y.drunk(0), 7);
            y.level(reach, 7);
            y.hang(reach, -1);
            check.due("without a CARD they stay so", y.drunk(0), 7);
        }
        // for all HOURS: as they are now does for the first, not for the last
        SluiceCards z = river("reach 5 0 3");
        hang(z, 0, 1, 0, "1 if h=2");
        check.due("holds()", z.holds(), 1);
        check.due("drunk(0)", z.drunk(0), 0);
    }

    private static void sleep() {
        check.about("SLEEP: the greatest set of REACHES that may do so together; of several the least as bits (-5: none, not even the empty one)");
        SluiceCards x = river("reach 9 0 9;reach 9 0 9;reach 9 0 9;span 1");
        check.due("not even the empty one", x.drunk(1), -5);
        check.due("DRUNK", x.drunk(0), 0);
        for (int reach = 0; reach < 3; reach++) hang(x, reach, 0, reach + 1, NEVER);
        check.due("the empty one", x.drunk(1), 0);
        check.due("DRUNK", x.drunk(0), 0);
        x.level(2, 0);
        check.due("REACH 2 alone", x.drunk(1), 4);
        // BOARDS are 1, 0, 0 and the cards say 0, 1, 0: of the upper two one may sleep, the lowest always
        SluiceCards y = river("reach 9 0 9;reach 3 0 0;reach 9 0 0;span 1;sum 0");
        hang(y, 0, 0, 1, NEVER);
        y.hour(0);
        hang(y, 0, 0, 0, NEVER);
        hang(y, 1, 0, 1, NEVER);
        y.level(1, 3);
        check.due("DRUNK: each alone", y.drunk(0), 7);
        check.due("SLEEP: 0 and 2, or 1 and 2", y.drunk(1), 5);
        y.level(1, 2);
        check.due("room for all", y.drunk(1), 7);
        sleepOfTwoAheadOfOne();
    }

    private static void sleepOfTwoAheadOfOne() {
        // BOARDS are 1, 1, 0: what an upper one lets down fills the full lowest one, unless that is awake
        SluiceCards x = river("reach 9 0 9;reach 9 0 5;reach 9 0 9;span 2;sum 0");
        hang(x, 0, 0, 1, NEVER);
        hang(x, 1, 0, 1, NEVER);
        x.hour(0);
        x.level(0, 9);
        x.level(1, 5);
        x.level(2, 9);
        hang(x, 0, 0, 0, NEVER);
        hang(x, 1, 1, 0, "1 if l>5");
        hang(x, 2, 0, 1, NEVER);
        check.due("BOARDS of REACH 2", x.of(2, 3), 0);
        check.due("DRUNK: each alone", x.drunk(0), 7);
        check.due("SLEEP: 0 and 1; 2 alone comes later and is less", x.drunk(1), 3);
    }

    // ---- RAISED

    private static void raised() {
        check.about("raised: STATE");
        check.due("without a river", new SluiceCards().raised(), -3);
        check.about("RAISED: the least (0 .. 9) by which all BANKS must be higher (each 9 at most) so that CARDS HOLD (-5: none)");
        for (int bank = 1; bank <= 9; bank++) {
            for (int span = 1; span <= 3; span++) {
                SluiceCards x = river("reach " + bank + " 0 " + bank + ";span " + span);
                for (int level = 0; level <= bank; level++) {
                    x.level(0, level);
                    int due = level + span > 9 ? -5 : Math.max(0, level + span - bank);
                    check.due("BANK " + bank + ", LEVEL " + level + ", span " + span, x.raised(), due);
                    check.due("BANK stays", x.of(0, 1), bank);
                }
            }
        }
        // two run in each HOUR: 1 and 6 and the sum must be within a BANK of 9 at most
        int[] due = {6, 7, 8, -5, -5};
        for (int sum = 0; sum < due.length; sum++) {
            SluiceCards x = river("reach 9 0 9;reach 1 0 1;sum " + sum);
            hang(x, 0, 0, 2, NEVER);
            check.due("by much, sum " + sum, x.raised(), due[sum]);
        }
        SluiceCards x = river("reach 9 0 9;sum 0");
        check.due("0: as they are", x.raised(), 0);
        check.due("each 9 at most", river("reach 9 0 9;reach 5 0 5;sum 1;span 1").raised(), -5);
    }

    // ---- MEAN, THIRST

    private static void part(SluiceCards x, int n, int what, long above, long below) {
        check.due("mean(" + n + ", " + what + ", 0)", x.mean(n, what, 0), above);
        check.due("mean(" + n + ", " + what + ", 1)", x.mean(n, what, 1), below);
    }

    private static void mean() {
        meanByOdds();
        meanInHours();
        meanOfReaches();
        meanSumAndSpanAside();
    }

    private static void meanByOdds() {
        check.about("each REACH in each HOUR having RAIN with odds of 10: a fraction in lowest terms");
        long[][] due = {{0, 1}, {1, 10}, {1, 5}, {3, 10}, {2, 5}, {1, 2}, {3, 5}, {7, 10}, {4, 5}, {9, 10}};
        for (int odds = 0; odds <= 9; odds++) part(river("reach 5 0 5;odds " + odds), 1, 0, due[odds][0], due[odds][1]);
        part(river("reach 5 0 5"), 1, 0, 1, 2);
    }

    private static void meanInHours() {
        check.about("MEAN: how likely a bank is gone over in the next n HOURS (1 .. 3)");
        // three in a row, two in a row, one
        SluiceCards x = river("reach 5 0 3;odds 3");
        part(x, 1, 0, 0, 1);
        part(x, 2, 0, 0, 1);
        part(x, 3, 0, 27, 1000);
        x.level(0, 4);
        part(x, 1, 0, 0, 1);
        part(x, 2, 0, 9, 100);
        part(x, 3, 0, 27, 125);
        x.level(0, 5);
        part(x, 1, 0, 3, 10);
        part(x, 2, 0, 51, 100);
        part(x, 3, 0, 657, 1000);
        // for certain, in whichever hour: once
        SluiceCards sure = river("reach 9 0 9;reach 1 0 0;odds 0");
        hang(sure, 0, 0, 1, NEVER);
        part(sure, 1, 0, 0, 1);
        part(sure, 2, 0, 1, 1);
        part(sure, 3, 0, 1, 1);
    }

    private static void meanOfReaches() {
        check.about("MEAN: each REACH in each HOUR");
        part(river("reach 1 0 1;reach 1 0 1;odds 1"), 1, 0, 19, 100);
        part(river("reach 1 0 1;reach 1 0 1;reach 1 0 1;odds 9"), 1, 0, 999, 1000);
        // 10 to the 9th below the line; none is gone over by 9 to the 9th of them
        part(river("reach 1 0 1;reach 1 0 1;reach 1 0 1;odds 1"), 3, 0, 1000000000L - 387420489L, 1000000000L);
        part(river("reach 1 0 1;reach 1 0 1;reach 1 0 1;odds 9"), 3, 0, 999999999L, 1000000000L);
    }

    private static void meanSumAndSpanAside() {
        check.about("(sum and span aside)");
        part(river("reach 5 0 4;span 1;sum 0;odds 1"), 2, 0, 1, 100);
        part(river("reach 5 0 4;span 1;sum 1;odds 1"), 2, 0, 1, 100);
        part(river("reach 5 0 5;span 3;sum 9;odds 1"), 1, 0, 1, 10);
        part(river("reach 9 1 0;span 1;sum 0;odds 1"), 2, 1, 9, 10);
    }

    private static void meanBounds() {
        check.about("NO: also without a RIVER");
        SluiceCards none = new SluiceCards(), x = river("reach 5 0 5");
        for (int n = -1; n <= 5; n++) {
            for (int what = -1; what <= 2; what++) {
                for (int part = -1; part <= 2; part++) {
                    boolean told = n >= 1 && n <= 3 && what >= 0 && what <= 1 && part >= 0 && part <= 1;
                    String call = "mean(" + n + ", " + what + ", " + part + ")";
                    check.due(call + " without a river", none.mean(n, what, part), NO);
                    check.due(call + " is a number", x.mean(n, what, part) == NO ? 0 : 1, told ? 1 : 0);
                }
            }
        }
        for (int far : FAR) {
            check.due("mean(" + far + ", 0, 0)", x.mean(far, 0, 0), NO);
            check.due("mean(1, " + far + ", 0)", x.mean(1, far, 0), NO);
            check.due("mean(1, 0, " + far + ")", x.mean(1, 0, far), NO);
        }
    }

    private static void thirst() {
        check.about("THIRST: how likely a MILL is DRY in one of them");
        // MILL at LEVEL: never; one above: unless rain comes at once
        part(river("reach 9 4 4;odds 3"), 3, 1, 0, 1);
        for (int n = 1; n <= 3; n++) part(river("reach 9 4 3;odds 3"), n, 1, 7, 10);
        for (int n = 1; n <= 3; n++) part(river("reach 9 4 2;odds 3"), n, 1, 1, 1);
        for (int n = 1; n <= 3; n++) part(river("reach 9 0 0;odds 0"), n, 1, 0, 1);
        // a mill above the bank is dry for certain
        part(river("reach 3 4 3;odds 9"), 1, 1, 1, 1);
        // dry in the third hour alone
        SluiceCards x = river("reach 9 0 0;reach 9 2 4;odds 0");
        hang(x, 1, 0, 1, NEVER);
        part(x, 2, 1, 0, 1);
        part(x, 3, 1, 1, 1);
        // any of them
        part(river("reach 9 1 0;reach 9 1 0;odds 1"), 1, 1, 99, 100);
    }

    // ---- SAME, BELL WORTH

    private static void same() {
        check.about("same: NONE; STATE");
        SluiceCards none = new SluiceCards(), x = river("reach 9 0 6");
        int[] outside = {-1, -2, 2, 3};
        for (SluiceCards each : new SluiceCards[] {none, x}) {
            for (int what : outside) check.due("same(" + what + ")", each.same(what), -1);
            for (int what : FAR) check.due("same(" + what + ")", each.same(what), -1);
        }
        for (int what = 0; what <= 1; what++) check.due("without a river: same(" + what + ")", none.same(what), -3);
        check.about("SAME: CARDS of which each, if it hung at all REACHES, would HOLD, as bits");
        check.due("no cards", x.same(0), 0);
        for (int card = 0; card < 8; card++) {
            Check.card(x, 0, card % 4, NEVER);
            check.due("all HOLD", x.same(0), (2 << card) - 1);
        }
        x.level(0, 9);
        check.due("those of v 0 don't", x.same(0), 255 - 1 - 16);
        check.due("nothing hangs", x.hang(0, -1), -5);
        Check.river(x, "reach 9 0 9;reach 9 0 9;span 1;sum 0");
        check.due("as much runs in as out", x.same(0), 255);
        Check.river(x, "reach 9 0 9;reach 9 0 9;span 1");
        check.due("at the lower one rain comes to it", x.same(0), 0);
        x.level(1, 8);
        check.due("all but those of v 0", x.same(0), 255 - 1 - 16);
    }

    private static void bellWorth() {
        check.about("BELL WORTH: 1, if CARDS HOLD, but not if the BELL never rang (c is 0 then); 0, if they HOLD both ways; -5, if they don't HOLD");
        SluiceCards x = river("reach 5 0 5");
        check.due("they don't HOLD", x.same(1), -5);
        hang(x, 0, 4, 0, NEVER);
        check.due("BELL", x.same(1), 1);
        hang(x, 0, 4, 1, NEVER);
        check.due("BELL, v does as well", x.same(1), 0);
        hang(x, 0, 1, 1, "0 if c=0");
        check.due("c is 0 then", x.same(1), 1);
        hang(x, 0, 1, 0, "1 if c=0");
        check.due("they don't HOLD while it rings, though they would", x.same(1), -5);
        hang(x, 0, 1, 0, "1 if l>0");
        check.due("no bell is asked for", x.same(1), 0);
        check.due("it rings still", x.stream(4), 1);
        // it would ring first in the last hour
        SluiceCards y = river("reach 5 0 3");
        check.due("they don't HOLD", y.same(1), -5);
        hang(y, 0, 4, 0, NEVER);
        check.due("BELL in HOUR 2", y.same(1), 1);
        y.level(0, 2);
        check.due("BELL in no HOUR of three", y.same(1), 0);
        y.hang(0, -1);
        check.due("without a CARD", y.same(1), 0);
    }
}
