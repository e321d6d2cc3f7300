/** Promises 14 to 22: whether cards hold, how they fail, and what would have to be otherwise. */
public final class HoldsTest {
    private static final Check check = new Check();

    public static void main(String[] args) {
        withoutARiver();
        promise14Holds();
        promise15Fails();
        promise16Fixed();
        promise17Found();
        promise18Lines();
        promise18LinesOfTold();
        promise19Drunk();
        promise20Raised();
        promise21Mean();
        promise21Thirst();
        promise22Same();
        promise22Bell();
        nothingIsChanged();
        check.end("HoldsTest");
    }

    /** A river, with cards of which the i-th hangs at the i-th reach. */
    private static SluiceCards river(String text) {
        SluiceCards x = new SluiceCards();
        check.about(text);
        Check.river(x, text);
        return x;
    }

    private static void hang(SluiceCards x, int reach, int kind, int v, String text) {
        x.hang(reach, Check.card(x, kind, v, text));
    }

    private static void withoutARiver() {
        check.about("promises 14 to 22, no river");
        SluiceCards x = new SluiceCards();
        Check.card(x, 0, 0, "1 if l=1");
        check.due("holds()", x.holds(), -3);
        check.due("fails(-1)", x.fails(-1), -3);
        check.due("fails(2)", x.fails(2), -3);
        check.due("fails(3), told first", x.fails(3), -1);
        check.due("fails(-2), told first", x.fails(-2), -1);
        check.due("fixed(-1)", x.fixed(-1), -3);
        check.due("fixed(0)", x.fixed(0), -1);
        check.due("fixed(-2)", x.fixed(-2), -1);
        check.due("found(0)", x.found(0), -1);
        check.due("lines(0)", x.lines(0), -3);
        check.due("lines(1), told first", x.lines(1), -1);
        check.due("lines(-1)", x.lines(-1), -1);
        check.due("drunk(0)", x.drunk(0), -3);
        check.due("drunk(1)", x.drunk(1), -3);
        check.due("drunk(2), told first", x.drunk(2), -1);
        check.due("drunk(-1)", x.drunk(-1), -1);
        check.due("raised()", x.raised(), -3);
        check.due("same(0)", x.same(0), -3);
        check.due("same(2), told first", x.same(2), -1);
        check.due("same(-1)", x.same(-1), -1);
        check.due("mean(1, 0, 0)", x.mean(1, 0, 0), Long.MIN_VALUE);
    }

    private static void promise14Holds() {
        String[] hold = {"reach 5 0 2", "reach 5 0 3;span 2", "reach 5 0 3;sum 2", "reach 5 0 5;sum 0", "reach 5 0 4;span 1", "reach 5 0 4;span 0", "reach 4 0 2;reach 3 0 1;sum 2"};
        for (String text : hold) check.due("holds()", river(text).holds(), 1);
        String[] fail = {"reach 5 0 3", "reach 5 0 4;span 2", "reach 5 0 4;sum 2", "reach 5 0 5;sum 1", "reach 4 0 2;reach 3 0 1;sum 3", "reach 5 0 5;span 1"};
        for (String text : fail) check.due("holds()", river(text).holds(), 0);
        // from now on
        SluiceCards x = river("reach 5 0 2");
        x.hour(1);
        check.due("holds() behind an hour of rain", x.holds(), 0);
        // no rain is needed where the one above runs in
        SluiceCards run = river("reach 9 0 3;reach 1 0 1;sum 0");
        check.due("holds()", run.holds(), 1);
        hang(run, 0, 0, 1, "0 if l=0");
        check.due("holds() with boards above", run.holds(), 0);
        check.due("fails(0)", run.fails(0), 0);
    }

    private static void promise15Fails() {
        SluiceCards x = river("reach 5 0 3");
        int[] three = {3, 1, 1, 1};
        for (int i = -1; i < 3; i++) check.due("fails(" + i + ")", x.fails(i), three[i + 1]);
        check.due("fails(3)", x.fails(3), -1);
        check.due("fails(-2)", x.fails(-2), -1);
        x.level(0, 5);
        int[] one = {1, 1, -5, -5};
        for (int i = -1; i < 3; i++) check.due("fails(" + i + ")", x.fails(i), one[i + 1]);
        x.level(0, 1);
        for (int i = -1; i < 3; i++) check.due("fails(" + i + ")", x.fails(i), -5);
        check.due("fails(3) though it holds", x.fails(3), -1);
        // the first as a row: reach 1 is one below its bank, so is reach 2
        SluiceCards y = river("reach 9 0 0;reach 3 0 2;reach 2 0 1;sum 3");
        int[] two = {2, 2, 2, -5};
        for (int i = -1; i < 3; i++) check.due("fails(" + i + ")", y.fails(i), two[i + 1]);
        y.level(1, 0);
        int[] below = {2, 4, 4, -5};
        for (int i = -1; i < 3; i++) check.due("fails(" + i + ")", y.fails(i), below[i + 1]);
        // what falls above runs down an hour later: the first row rains above first
        SluiceCards z = river("reach 9 0 0;reach 1 0 1;sum 1");
        hang(z, 0, 0, 3, "0 if l=0");
        check.due("fails(-1)", z.fails(-1), 1);
        check.due("fails(0)", z.fails(0), 2);
        z.hang(1, Check.card(z, 0, 1, "0 if l=0"));
        check.due("fails(-1)", z.fails(-1), -5);
        // reach 0 lets 3 out in hour 2, if it did not rise before: only then does rain below it go over
        SluiceCards late = river("reach 9 0 3;reach 3 0 0;sum 1");
        hang(late, 0, 1, 0, "0 if h<2;3 if w<2");
        int[] last = {3, 0, 0, 2};
        for (int i = -1; i < 3; i++) check.due("fails(" + i + ")", late.fails(i), last[i + 1]);
        // and the other way: it must rise first
        SluiceCards first = river("reach 9 0 3;reach 3 0 0;sum 3");
        hang(first, 0, 1, 0, "3 if h=2&w=2");
        int[] rising = {3, 0, 1, 2};
        for (int i = -1; i < 3; i++) check.due("fails(" + i + ")", first.fails(i), rising[i + 1]);
    }

    private static void promise16Fixed() {
        SluiceCards x = river("reach 5 2 3");
        check.due("fixed(-1)", x.fixed(-1), 3);
        check.due("fixed(0)", x.fixed(0), 1);
        check.due("fixed(1)", x.fixed(1), -1);
        check.due("fixed(-2)", x.fixed(-2), -1);
        hang(x, 0, 0, 0, "0 if l=0");
        check.due("fixed(-1) in spite of cards", x.fixed(-1), 3);
        check.due("BOARDS stay", x.of(0, 3), 0);
        SluiceCards all = river("reach 9 0 0;reach 9 0 0;reach 9 0 0");
        check.due("fixed(-1)", all.fixed(-1), 64);
        for (int i = 0; i < 3; i++) check.due("fixed(" + i + ")", all.fixed(i), 0);
        SluiceCards no = river("reach 9 0 9;reach 1 0 1;reach 1 0 1");
        // reach 0 must let out 1 at least, and reach 1 can't take it in all hours
        check.due("fixed(-1)", no.fixed(-1), 0);
        check.due("fixed(0)", no.fixed(0), -5);
        check.due("fixed(2)", no.fixed(2), -5);
        SluiceCards two = river("reach 3 0 3;reach 9 0 0;span 2;sum 2");
        // reach 0 lets out 1, 2 or 3, or else goes over; reach 1 takes all
        check.due("fixed(-1)", two.fixed(-1), 12);
        check.due("fixed(0)", two.fixed(0), 1);
        check.due("fixed(1)", two.fixed(1), 0);
        SluiceCards below = river("reach 9 0 0;reach 3 0 3;span 1");
        hang(below, 1, 0, 3, "0 if l=0");
        check.due("fixed(-1) in spite of a card below", below.fixed(-1), 12);
        check.due("fixed(1)", below.fixed(1), 1);
    }

    private static void promise17Found() {
        SluiceCards x = river("reach 5 0 3");
        check.due("found(0), no card", x.found(0), -5);
        hang(x, 0, 0, 3, "0 if l=0");
        check.due("found(0)", x.found(0), 1);
        check.due("v stays", x.told(0, 1), 3);
        check.due("found(1)", x.found(1), -1);
        check.due("found(-1)", x.found(-1), -1);
        hang(x, 0, 1, 3, "0 if l<9");
        check.due("found(0): v is never asked for", x.found(0), -5);
        x.level(0, 2);
        check.due("found(0)", x.found(0), 0);
        // wherever that hangs: the lower reach must let out what comes from above
        SluiceCards two = river("reach 9 0 3;reach 3 0 3;sum 1;span 2");
        hang(two, 0, 0, 2, "0 if l=0");
        two.hang(1, 0);
        check.due("found(0), at both reaches", two.found(0), -5);
        check.due("found(1), at both reaches", two.found(1), -5);
        two.hang(0, -1);
        check.due("found(1), at one", two.found(1), 1);
        SluiceCards most = river("reach 9 0 9;reach 3 0 3;sum 0");
        hang(most, 0, 0, 3, "0 if l=0");
        hang(most, 1, 0, 0, "0 if l=0");
        check.due("found(1), as much as comes", most.found(1), 3);
    }

    private static void promise18Lines() {
        SluiceCards x = river("reach 5 0 3");
        hang(x, 0, 1, 0, "1 if l>4;0 if l<9");
        check.due("holds()", x.holds(), 1);
        check.due("lines(0)", x.lines(0), 1);
        check.due("lines(1)", x.lines(1), -1);
        check.due("lines(-1)", x.lines(-1), -1);
        check.due("LINES stay", x.told(0, 2), 2);
        hang(x, 0, 1, 1, "1 if l>4;0 if l<4");
        check.due("lines(1): v does as well", x.lines(1), 0);
        check.due("lines(0): hangs nowhere", x.lines(0), 0);
        hang(x, 0, 1, 0, "1 if l=3;1 if l=4;1 if l=5");
        check.due("lines(2): each alone is left out, and any one may be", x.lines(2), 0);
        x.level(0, 4);
        check.due("lines(2) from 4 on: one of three hours may go without", x.lines(2), 0);
        hang(x, 0, 1, 0, "1 if l=4;2 if l=3;1 if l=5");
        x.level(0, 5);
        check.due("lines(3) from 5 on: the last is needed at once", x.lines(3), 4);
        x.level(0, 4);
        hang(x, 0, 1, 0, "0 if l>4;1 if l<9");
        check.due("holds()", x.holds(), 1);
        check.due("lines(4)", x.lines(4), 2);
        x.level(0, 5);
        check.due("holds()", x.holds(), 0);
        check.due("lines(4): none, if they don't hold", x.lines(4), 0);
        hang(x, 0, 0, 1, "0 if l=0;0 if l=0");
        check.due("lines(5) of a kind that has no use for them", x.lines(4), 0);
    }

    private static void promise18LinesOfTold() {
        SluiceCards x = river("reach 5 0 5");
        hang(x, 0, 5, 0, "1 if l=0;1 if l=0;1 if l=0");
        check.due("lines(0): the others take its turn", x.lines(0), 0);
        hang(x, 0, 5, 0, "1 if l=0");
        check.due("lines(1): v without", x.lines(1), 1);
        hang(x, 0, 5, 1, "1 if l=0");
        check.due("lines(2): v without", x.lines(2), 0);
        hang(x, 0, 5, 0, "1 if l=0;2 if l=0;0 if l=0");
        check.due("holds()", x.holds(), 1);
        // 2 0 2: holds; 1 0 1: goes over in hour 1; 1 2 1: holds
        check.due("lines(3)", x.lines(3), 2);
        x.level(0, 3);
        hang(x, 0, 5, 0, "1 if l=0;0 if l=0;0 if l=0");
        check.due("lines(4): without the first all goes to the others' turns", x.lines(4), 1);
    }

    private static void promise19Drunk() {
        SluiceCards x = river("reach 9 0 0;reach 1 0 1;span 1");
        check.due("drunk(0)", x.drunk(0), 0);
        check.due("drunk(1), not even the empty set", x.drunk(1), -5);
        hang(x, 1, 0, 1, "0 if l=0");
        check.due("drunk(0)", x.drunk(0), 1);
        check.due("drunk(1)", x.drunk(1), 1);
        check.due("drunk(2)", x.drunk(2), -1);
        check.due("drunk(-1)", x.drunk(-1), -1);
        x.hour(0);
        check.due("BOARDS are 1 now: drunk(0)", x.drunk(0), 3);
        check.due("BOARDS are 1 now: drunk(1)", x.drunk(1), 3);
        SluiceCards empty = river("reach 3 0 3;span 1");
        hang(empty, 0, 0, 1, "0 if l=0");
        check.due("drunk(0)", empty.drunk(0), 0);
        check.due("drunk(1), the empty set", empty.drunk(1), 0);
        // one of the two may sleep, not both: of several the least
        SluiceCards one = river("reach 9 0 9;reach 9 0 9;reach 9 0 0;span 1;sum 1");
        hang(one, 0, 0, 1, "0 if l=0");
        hang(one, 1, 0, 2, "0 if l=0");
        check.due("holds()", one.holds(), 1);
        check.due("drunk(0)", one.drunk(0), 4);
        check.due("drunk(1)", one.drunk(1), 4);
        SluiceCards either = river("reach 9 0 9;reach 8 0 8;reach 9 0 0;span 1;sum 0");
        hang(either, 0, 0, 2, "0 if l=0");
        hang(either, 1, 0, 2, "0 if l=0");
        hang(either, 2, 0, 0, "0 if l=0");
        check.due("drunk(0)", either.drunk(0), 5);
        check.due("drunk(1)", either.drunk(1), 7);
        // BOARDS are 1 above and 0 below: each alone may stay so, both together would fill the lower reach
        SluiceCards tie = river("reach 9 0 9;reach 3 0 0;span 1;sum 0");
        hang(tie, 0, 0, 1, "0 if l=0");
        hang(tie, 1, 0, 0, "0 if l=0");
        tie.hour(0);
        tie.hang(0, 1);
        tie.hang(1, 0);
        tie.level(1, 3);
        check.due("drunk(0)", tie.drunk(0), 3);
        check.due("drunk(1), of several the least", tie.drunk(1), 1);
    }

    private static void promise20Raised() {
        Object[][] rows = {
            {"reach 3 0 0", 0}, {"reach 3 0 1", 1}, {"reach 3 0 3", 3}, {"reach 6 0 6", 3}, {"reach 7 0 7", -5}, {"reach 7 0 7;span 2", 2},
            {"reach 9 0 9", -5}, {"reach 9 0 6;reach 1 0 1", 3}, {"reach 9 0 9;sum 0", 0},
        };
        for (Object[] row : rows) check.due("raised()", river((String) row[0]).raised(), (Integer) row[1]);
        SluiceCards x = river("reach 1 0 1;reach 1 0 1;span 1");
        check.due("raised()", x.raised(), 1);
        check.due("BANK stays", x.of(0, 1), 1);
        // with a higher bank the bell rings no more at 4, and what it let out stays
        SluiceCards bell = river("reach 4 0 4;span 2");
        hang(bell, 0, 4, 0, "0 if l=9");
        check.due("raised()", bell.raised(), 0);
        bell = river("reach 4 0 4;reach 5 0 5;span 1");
        hang(bell, 0, 4, 0, "0 if l=9");
        check.due("raised(): the bell would drown reach 1", bell.raised(), 1);
    }

    private static void promise21Mean() {
        SluiceCards x = river("reach 2 1 1;odds 3;span 1;sum 0");
        mean(x, 1, 0, 0, 1);
        mean(x, 2, 0, 9, 100);
        mean(x, 3, 0, 27, 125);
        int[][] bad = {{0, 0, 0}, {4, 0, 0}, {1, -1, 0}, {1, 2, 0}, {1, 0, -1}, {1, 0, 2}, {Integer.MIN_VALUE, 0, 0}};
        for (int[] b : bad) check.due("mean(" + b[0] + ", " + b[1] + ", " + b[2] + ")", x.mean(b[0], b[1], b[2]), Long.MIN_VALUE);
        mean(river("reach 2 0 2;odds 0"), 3, 0, 0, 1);
        mean(river("reach 2 0 2;odds 9"), 1, 0, 9, 10);
        mean(river("reach 2 0 2"), 1, 0, 1, 2);
        mean(river("reach 2 0 2;reach 2 0 2"), 1, 0, 3, 4);
        mean(river("reach 2 0 2;reach 2 0 2;reach 3 0 3;odds 1"), 1, 0, 271, 1000);
        // for certain: 9 above reach 1 lets out 3
        SluiceCards sure = river("reach 9 0 9;reach 2 0 2;odds 4");
        hang(sure, 0, 0, 3, "0 if l=0");
        mean(sure, 1, 0, 1, 1);
        mean(sure, 3, 0, 1, 1);
        // 27 bits of luck: none of three reaches ever
        mean(river("reach 1 0 1;reach 1 0 1;reach 1 0 1;odds 1"), 3, 0, 612579511L, 1000000000L);
    }

    private static void promise21Thirst() {
        SluiceCards x = river("reach 2 1 1;odds 3");
        mean(x, 3, 1, 0, 1);
        hang(x, 0, 0, 1, "0 if l=0");
        mean(x, 1, 1, 7, 10);
        mean(x, 2, 1, 91, 100);
        mean(x, 3, 1, 973, 1000);
        // dry as the hour begins, but not behind it
        mean(river("reach 9 1 0;odds 9"), 1, 1, 1, 10);
        mean(river("reach 9 1 0;odds 9"), 2, 1, 1, 10);
        mean(river("reach 2 3 2"), 1, 1, 1, 1);
    }

    private static void mean(SluiceCards x, int n, int what, long above, long below) {
        check.due("mean(" + n + ", " + what + ", 0)", x.mean(n, what, 0), above);
        check.due("mean(" + n + ", " + what + ", 1)", x.mean(n, what, 1), below);
    }

    private static void promise22Same() {
        SluiceCards x = river("reach 5 0 3;reach 9 0 0");
        check.due("same(0), no cards", x.same(0), 0);
        for (int v = 0; v < 4; v++) Check.card(x, 0, v, "0 if l=0");
        check.due("same(0)", x.same(0), 14);
        check.due("same(2)", x.same(2), -1);
        check.due("same(-1)", x.same(-1), -1);
        check.due("nothing hangs", x.hang(1, -1), -5);
        for (int k = 4; k < 8; k++) Check.card(x, 0, k % 2, "0 if l=0");
        check.due("same(0)", x.same(0), 14 + 32 + 128);
        Check.river(x, "reach 9 0 0;reach 2 0 1");
        check.due("same(0), at all reaches: 1 is too little for two", x.same(0), 12);
        Check.river(x, "reach 9 0 9;reach 2 0 2;sum 0;span 1");
        check.due("same(0), none runs out above or as much below", x.same(0), 1 + 2 + 4 + 16 + 32 + 64 + 128);
    }

    private static void promise22Bell() {
        SluiceCards x = river("reach 5 0 3");
        check.due("same(1), they don't hold", x.same(1), -5);
        hang(x, 0, 0, 1, "0 if l=0");
        check.due("same(1), no bell", x.same(1), 0);
        hang(x, 0, 4, 0, "0 if l<9");
        check.due("same(1), BELL", x.same(1), 1);
        hang(x, 0, 1, 0, "1 if c=1");
        check.due("same(1), c", x.same(1), 1);
        hang(x, 0, 1, 0, "1 if c<2");
        check.due("same(1), c either way", x.same(1), 0);
        hang(x, 0, 1, 0, "1 if c=0");
        check.due("same(1), c = 0", x.same(1), 0);
        check.due("stream(4), it rings as before", x.stream(4), 0);
        x.level(0, 5);
        check.due("same(1)", x.same(1), -5);
        check.due("stream(4)", x.stream(4), 1);
    }

    /** What is only asked leaves all as it is. */
    private static void nothingIsChanged() {
        SluiceCards x = river("reach 5 1 4;reach 4 1 4;reach 4 1 2;span 2;sum 3");
        hang(x, 0, 3, 2, "1 if l>3;0 if w=1");
        hang(x, 1, 4, 1, "2 if l>3&c=0");
        hang(x, 2, 6, 1, "3 if l=0;1 if l=1");
        x.hour(5);
        long[] before = Look.at(x);
        for (int k = 0; k < 2; k++) {
            x.holds();
            x.fails(-1);
            x.fixed(-1);
            x.found(k);
            x.lines(k);
            x.drunk(k);
            x.raised();
            x.mean(3, k, 0);
            x.same(k);
            x.run(k);
            x.boards(k);
            check.dueRow("all behind what was asked", Look.at(x), before);
        }
    }
}
