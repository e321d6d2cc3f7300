/** Promises 7 to 13: reaches, the bell, boards by cards of each kind, hours, the rain told by hand, runs. */
public final class HoursTest {
    private static final Check check = new Check();

    public static void main(String[] args) {
        promise7Of();
        promise8Stream();
        promise9Level();
        promise10Tests();
        promise10Kinds();
        promise10TurnsAndSticking();
        promise11Hour();
        promise11HourBounds();
        promise12Rain();
        promise13Run();
        promise13RunBeyond99();
        check.end("HoursTest");
    }

    private static void promise7Of() {
        check.about("promise 7");
        SluiceCards x = new SluiceCards();
        check.due("without a river", x.of(0, 0), -1);
        Check.river(x, "reach 6 2 5;reach 7 8 1");
        Check.card(x, 0, 3, "0 if l=0");
        x.hang(0, 0);
        x.hour(0);
        int[][] due = {{2, 6, 2, 3, 0}, {4, 7, 8, 0, 2}};
        for (int reach = 0; reach < 2; reach++) {
            for (int what = 0; what < 5; what++) check.due("of(" + reach + ", " + what + ")", x.of(reach, what), due[reach][what]);
            check.due("of(" + reach + ", 5)", x.of(reach, 5), -1);
            check.due("of(" + reach + ", -1)", x.of(reach, -1), -1);
        }
        check.due("of(2, 0)", x.of(2, 0), -1);
        check.due("of(-1, 0)", x.of(-1, 0), -1);
    }

    private static void promise8Stream() {
        check.about("promise 8");
        SluiceCards x = new SluiceCards();
        check.due("stream(0)", x.stream(0), -3);
        check.due("stream(5), told first", x.stream(5), -1);
        check.due("stream(-1), told first", x.stream(-1), -1);
        Check.river(x, "reach 3 0 3;reach 2 0 1;span 2;sum 4;odds 7");
        int[] due = {2, 4, 7, 0, 1};
        for (int what = 0; what < 5; what++) check.due("stream(" + what + ")", x.stream(what), due[what]);
        x.hour(0);
        check.due("HOUR", x.stream(3), 1);
        x.level(0, 2);
        x.level(1, 2);
        check.due("the bell looks at reach 0 alone", x.stream(4), 0);
    }

    private static void promise9Level() {
        check.about("promise 9");
        SluiceCards x = new SluiceCards();
        check.due("without a river", x.level(0, 0), -1);
        Check.river(x, "reach 3 0 1;reach 9 0 9");
        x.hour(3);
        check.due("way", x.of(0, 4), 2);
        check.due("level(0, 4)", x.level(0, 4), -2);
        check.due("level(0, -1)", x.level(0, -1), -2);
        check.due("way stays", x.of(0, 4), 2);
        check.due("level(0, 3)", x.level(0, 3), 2);
        check.due("LEVEL", x.of(0, 0), 3);
        check.due("way", x.of(0, 4), 1);
        check.due("level(0, 0)", x.level(0, 0), 3);
        check.due("level(2, 99), told first", x.level(2, 99), -1);
        check.due("level(-1, 0)", x.level(-1, 0), -1);
        check.due("level(1, 9)", x.level(1, 9), 9);
    }

    /** A river of one reach whose level and way are as told, at an hour. */
    private static SluiceCards at(int level, int way, int hour) {
        SluiceCards x = new SluiceCards();
        Check.river(x, "reach 9 0 0");
        for (int k = 0; k < hour; k++) x.hour(0);
        x.level(0, level - (way == 2 ? 1 : 0));
        if (way == 2) x.hour(1);
        if (way == 0) {
            x.level(0, level + 1);
            Check.card(x, 0, 1, "0 if l=0");
            x.hang(0, x.count(1) - 1);
            x.hour(0);
        }
        return x;
    }

    private static void promise10Tests() {
        check.about("promise 10");
        // level, way, the test, whether it holds; the hour is 2 where a way is made, 3 there.
        Object[][] rows = {
            {4, 1, "l=4", 1}, {4, 1, "l<4", 0}, {4, 1, "l<5", 1}, {4, 1, "l>3", 1}, {4, 1, "l>4", 0}, {0, 1, "l<0", 0}, {9, 1, "l=9", 1},
            {4, 1, "h=2", 1}, {4, 2, "h=3", 1}, {4, 1, "h<2", 0}, {4, 1, "h>1", 1},
            {4, 0, "w=0", 1}, {4, 1, "w=1", 1}, {4, 2, "w=2", 1}, {4, 2, "w<2", 0}, {4, 0, "w>0", 0},
            {4, 1, "c=0", 1}, {9, 1, "c=1", 1}, {9, 1, "c>0", 1}, {8, 1, "c=1", 0},
            {4, 1, "!l=4", 0}, {4, 1, "!!l=4", 1}, {4, 1, "!l=3&l=4", 1}, {4, 1, "!(l=3&l=4)", 1}, {4, 1, "!(l=4|l=3)", 0},
            // & binds more than |, ! more than &
            {4, 1, "l=4|l=3&l=2", 1}, {4, 1, "(l=4|l=3)&l=2", 0}, {4, 1, "l=3&l=2|l=4", 1}, {4, 1, "l=3&(l=2|l=4)", 0},
            {4, 1, "!l=4|l=4", 1}, {4, 1, "!l=3&l=3", 0}, {4, 1, "l=1|l=2|l=3|l=4", 1}, {4, 1, "l>1&l>2&l>3&l>4", 0},
            {4, 1, "!(!(l=4&h=2)|w=1&(c=1|l=9))", 1},
        };
        for (Object[] row : rows) {
            SluiceCards x = at((Integer) row[0], (Integer) row[1], 2);
            int card = Check.card(x, 1, 0, "1 if " + row[2]);
            x.hang(0, card);
            check.due("level " + row[0] + ", way " + row[1] + ": " + row[2], x.boards(0), (Integer) row[3]);
        }
    }

    private static void promise10Kinds() {
        check.about("promise 10");
        check.due("without a river", new SluiceCards().boards(0), -1);
        // kind, v, text, level, way, boards that are due (BOARDS were 0, or 1 where it fell)
        Object[][] rows = {
            {0, 2, "1 if l>0", 5, 1, 2}, {0, 2, "1 if l>0", 9, 2, 2},
            {1, 2, "1 if l>4;3 if l>3", 5, 1, 1}, {1, 2, "1 if l>4;3 if l>3", 4, 1, 3}, {1, 2, "1 if l>4;3 if l>3", 3, 2, 2},
            {2, 2, "1 if l>4", 5, 1, 1}, {2, 2, "1 if l>4", 5, 2, 2}, {2, 2, "1 if l>4", 5, 0, 1}, {2, 2, "1 if l>4", 4, 2, 3}, {2, 3, "1 if l>4", 4, 2, 3},
            {3, 2, "1 if l>4", 5, 1, 1}, {3, 2, "1 if l>4", 5, 2, 1}, {3, 3, "1 if l>4", 4, 0, 2}, {3, 0, "1 if l>8", 4, 0, 0}, {3, 0, "1 if l>4", 5, 0, 1},
            {4, 2, "1 if l>4", 5, 2, 1}, {4, 2, "1 if l>4", 4, 2, 2}, {4, 2, "1 if l>4", 9, 1, 3}, {4, 0, "1 if c=1", 9, 2, 3},
        };
        for (Object[] row : rows) {
            SluiceCards x = at((Integer) row[3], (Integer) row[4], 0);
            x.hang(0, Check.card(x, (Integer) row[0], (Integer) row[1], (String) row[2]));
            check.due("kind " + row[0] + ", v " + row[1] + ", " + row[2] + ", level " + row[3] + ", way " + row[4], x.boards(0), (Integer) row[5]);
        }
        SluiceCards x = new SluiceCards();
        Check.river(x, "reach 4 0 4;reach 4 0 1");
        Check.card(x, 4, 0, "1 if l=9");
        x.hang(1, 0);
        check.due("the bell rings for all", x.boards(1), 3);
        check.due("boards(2)", x.boards(2), -1);
        check.due("boards(-1)", x.boards(-1), -1);
        check.due("boards are asked, not set", x.of(1, 3), 0);
    }

    private static void promise10TurnsAndSticking() {
        check.about("promise 10");
        SluiceCards x = new SluiceCards();
        Check.river(x, "reach 9 0 0;reach 9 0 0;reach 9 0 0");
        Check.card(x, 5, 0, "3 if l=9;1 if l=9;2 if l=9");
        Check.card(x, 6, 0, "3 if l=9;1 if l=9;2 if l=9");
        Check.card(x, 3, 3, "3 if l<9");
        for (int reach = 0; reach < 3; reach++) x.hang(reach, reach);
        int[] turn = {3, 1, 2, 3, 1, 2, 3}, stuck = {3, 3, 2, 2, 1, 1, 3}, slow = {1, 2, 3, 3, 3, 3, 3};
        for (int hour = 0; hour < 7; hour++) {
            check.due("TOLD in " + hour, x.boards(0), turn[hour]);
            check.due("STUCK in " + hour, x.boards(1), stuck[hour]);
            check.due("SLOW in " + hour, x.boards(2), slow[hour]);
            x.hour(0);
            check.due("as they were set", x.of(1, 3), stuck[hour]);
        }
        x.hang(1, -1);
        check.due("without a card as they were", x.boards(1), 3);
        Check.card(x, 3, 3, "0 if l<9");
        x.hang(2, 3);
        int[] down = {2, 1, 0, 0};
        for (int hour = 0; hour < 4; hour++) {
            check.due("SLOW down", x.boards(2), down[hour]);
            x.hour(0);
        }
    }

    private static void promise11Hour() {
        check.about("promise 11");
        SluiceCards x = new SluiceCards();
        check.due("without a river", x.hour(0), -3);
        check.due("told first", x.hour(8), -2);
        Check.river(x, "reach 5 0 2;reach 4 0 1;reach 2 0 2");
        Check.card(x, 0, 2, "0 if l=0");
        x.hang(0, 0);
        check.due("hour(0)", x.hour(0), 0);
        state(x, 0, 3, 2, 0, 2, 1);
        check.due("hour(3)", x.hour(3), 0);
        state(x, 1, 4, 2, 2, 2, 1);
        // all boards are set, then all runs at once: reach 1 gets what was in reach 0
        check.due("hour(6): two go over", x.hour(6), 6);
        state(x, 0, 4, 2, 0, 1, 1);
        check.due("HOUR", x.stream(3), 3);
        check.due("hour(-1)", x.hour(-1), -2);
        check.due("hour(8)", x.hour(8), -2);
        check.due("HOUR stays", x.stream(3), 3);
        x.hang(0, -1);
        check.due("hour(7)", x.hour(7), 6);
        check.due("without a card boards stay", x.of(0, 3), 2);
        x.hang(2, 0);
        check.due("hour(0): the last one runs away, the one between goes over", x.hour(0), 2);
        check.due("LEVEL", x.of(2, 0), 0);

        SluiceCards one = new SluiceCards();
        Check.river(one, "reach 3 0 3");
        check.due("hour(6): on no reach", one.hour(6), 0);
        check.due("hour(7)", one.hour(7), 1);
        check.due("LEVEL is BANK", one.of(0, 0), 3);
        check.due("way: LEVEL behind it", one.of(0, 4), 1);
    }

    private static void state(SluiceCards x, int l0, int l1, int l2, int w0, int w1, int w2) {
        int[] level = {l0, l1, l2}, way = {w0, w1, w2};
        for (int i = 0; i < 3; i++) {
            check.due("LEVEL of " + i, x.of(i, 0), level[i]);
            check.due("way of " + i, x.of(i, 4), way[i]);
        }
    }

    private static void promise11HourBounds() {
        check.about("promise 11");
        SluiceCards x = new SluiceCards();
        Check.river(x, "reach 3 0 1");
        for (int k = 0; k < 99; k++) check.due("hour " + k, x.hour(0), 0);
        check.due("HOUR", x.stream(3), 99);
        check.due("hour(1) at 99", x.hour(1), -3);
        check.due("hour(9) at 99, told first", x.hour(9), -2);
        check.due("LEVEL stays", x.of(0, 0), 1);
        check.due("HOUR stays", x.stream(3), 99);
    }

    private static void promise12Rain() {
        check.about("promise 12");
        SluiceCards x = new SluiceCards();
        check.due("rain(-1) of none", x.rain(-1), 0);
        for (int k = 1; k <= 10; k++) check.due("rain(" + k % 8 + ")", x.rain(k % 8), k);
        check.due("an eleventh", x.rain(0), -4);
        check.due("rain(8), told first", x.rain(8), -2);
        check.due("rain(-2)", x.rain(-2), -2);
        check.due("count(2)", x.count(2), 10);
        check.due("rain(-1)", x.rain(-1), 0);
        check.due("count(2)", x.count(2), 0);
        check.due("rain(7)", x.rain(7), 1);
    }

    private static void promise13Run() {
        check.about("promise 13");
        SluiceCards x = new SluiceCards();
        check.due("without a river", x.run(0), -3);
        check.due("run(3), told first", x.run(3), -1);
        check.due("run(-1), told first", x.run(-1), -1);
        Check.river(x, "reach 4 1 2;reach 3 2 2");
        check.due("OVER of no rain", x.run(0), -5);
        check.due("DRY of no rain", x.run(1), -5);
        check.due("MADE of no rain", x.run(2), 4);
        Check.card(x, 5, 0, "0 if l=0;2 if l=0");
        x.hang(0, 0);
        // hour 0: 3 2; hour 1: two boards: 1 4 -> over at 1; hour 2: 1 3; hour 3: 0 4 -> over, dry at 0
        x.rain(5);
        x.rain(0);
        check.due("OVER", x.run(0), 11);
        check.due("DRY", x.run(1), -5);
        x.rain(0);
        x.rain(0);
        check.due("OVER, the first", x.run(0), 11);
        check.due("DRY", x.run(1), 30);
        check.due("MADE", x.run(2), 3);
        check.due("LEVEL is as it was", x.of(0, 0), 2);
        check.due("HOUR is as it was", x.stream(3), 0);
        x.hour(0);
        // from hour 1 on: boards 2: 1 3, 1 3, 0 3
        check.due("from all as it is now: OVER", x.run(0), 1);
        check.due("from all as it is now: DRY", x.run(1), 20);

        SluiceCards two = new SluiceCards();
        Check.river(two, "reach 1 5 1;reach 1 5 1");
        two.rain(3);
        check.due("the first REACH that goes over", two.run(0), 0);
        check.due("the first MILL that is dry", two.run(1), 0);
        two.rain(-1);
        two.rain(6);
        check.due("REACH 1 alone goes over", two.run(0), 1);
        Check.river(two, "reach 4 0 2;reach 4 3 2");
        check.due("MILL 1 alone is dry", two.run(1), -5);
        two.rain(-1);
        two.rain(1);
        check.due("MILL 1 alone is dry", two.run(1), 1);
    }

    private static void promise13RunBeyond99() {
        check.about("promise 13");
        SluiceCards x = new SluiceCards();
        Check.river(x, "reach 3 0 3");
        for (int k = 0; k < 99; k++) x.hour(0);
        Check.card(x, 5, 0, "1 if l=0;0 if l=0;0 if l=0");
        x.hang(0, 0);
        for (int k = 0; k < 10; k++) x.rain(1);
        // 99 is a third's first, so is 102: then one runs out; in 100 a bank is gone over.
        check.due("OVER", x.run(0), 10);
        check.due("MADE", x.run(2), 3);
        x.rain(-1);
        for (int k = 0; k < 7; k++) x.rain(0);
        check.due("MADE, no rain: 99, 102, 105", x.run(2), 0);
    }
}
