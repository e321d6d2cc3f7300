/** Promises 23 to 28: acts, their trace, kinds, the image, counts. */
public final class ActsTest {
    private static final Check check = new Check();

    public static void main(String[] args) {
        promise23And24Acts();
        promise23Refusals();
        promise23Wraps();
        promise25As();
        promise26And27Image();
        promise27AllComesBack();
        promise27CardsMadeAfterwards();
        promise28Count();
        check.end("ActsTest");
    }

    /** Seven cards, each of the kind of its number, v from 0 to 3 in turn. */
    private static SluiceCards cards() {
        SluiceCards x = new SluiceCards();
        for (int kind = 0; kind < 7; kind++) Check.card(x, kind, kind % 4, "1 if l=1");
        return x;
    }

    private static void promise23And24Acts() {
        check.about("promises 23, 24");
        SluiceCards x = cards();
        int[][] answers = {{10, 10, 20}, {31, 30, 60}, {32, -30, -60}, {33, -30, -45}, {38, 38, 76}, {15, 14, 27}, {16, 16, 39}};
        int[][][] bodies = {
            {{1}, {2, 1}, {3, 2, 1}},
            {{11, 1}, {2, 11, 1}, {3, 2, 11, 1}},
            {{11, 1}, {21, 2, 11, 1}, {3, 21, 2, 11, 1}},
            {{11, 1}, {21, 2, 11, 1}, {41, 3, 21, 2, 11, 1, 11, 1}},
            {{51, 11, 1}, {2, 51, 11, 1}, {3, 2, 51, 11, 1}},
            {{1}, {2, 1}, {31, 3, 2, 1}},
            {{1}, {61, 2, 1}, {31, 3, 61, 2, 1}},
        };
        for (int card = 0; card < 7; card++) {
            for (int act = 0; act < 3; act++) {
                check.due("act(" + card + ", " + act + ", 10)", x.act(card, act, 10), answers[card][act]);
                int[] due = bodies[card][act];
                check.due("count(4)", x.count(4), due.length);
                for (int i = 0; i < due.length; i++) check.due("trace(" + i + ") of " + card + ", " + act, x.trace(i), due[i]);
                check.due("trace behind the last", x.trace(due.length), -1);
                check.due("trace(-1)", x.trace(-1), -1);
            }
        }
        check.due("trace(20)", x.trace(20), -1);
        check.due("trace(max)", x.trace(Integer.MAX_VALUE), -1);
    }

    private static void promise23Refusals() {
        check.about("promise 23");
        int[][] bad = {{7, 0}, {-1, 0}, {0, 3}, {0, -1}, {Integer.MIN_VALUE, 0}, {0, Integer.MAX_VALUE}};
        for (int[] b : bad) {
            SluiceCards x = cards();
            x.act(3, 2, 5);
            check.due("act(" + b[0] + ", " + b[1] + ", 5)", x.act(b[0], b[1], 5), 0);
            check.due("count(4)", x.count(4), 0);
            check.due("trace(0)", x.trace(0), -1);
        }
    }

    private static void promise23Wraps() {
        check.about("promise 23");
        SluiceCards x = cards();
        check.due("sees of LEVEL", x.act(1, 0, Integer.MAX_VALUE), 2147483646);
        check.due("sees of RISING", x.act(2, 0, Integer.MIN_VALUE), Integer.MIN_VALUE + 2);
        check.due("wakes of CARD", x.act(0, 2, 1 << 30), Integer.MIN_VALUE);
        check.due("sets of RISING", x.act(2, 1, Integer.MIN_VALUE), Integer.MIN_VALUE);
        check.due("sees of TOLD", x.act(5, 0, Integer.MAX_VALUE), Integer.MIN_VALUE + 4);
    }

    private static void promise25As() {
        check.about("promise 25");
        SluiceCards x = cards();
        String[] under = {"0", "01", "012", "0123", "014", "05", "056"};
        for (int card = 0; card < 7; card++) {
            for (int k = 0; k < 7; k++) {
                boolean is = under[card].indexOf((char) ('0' + k)) >= 0;
                check.due("as(" + card + ", " + k + ")", x.as(card, k), is ? card % 4 : -6);
            }
            check.due("as(" + card + ", 7)", x.as(card, 7), -1);
            check.due("as(" + card + ", -1)", x.as(card, -1), -1);
        }
        check.due("as(7, 0)", x.as(7, 0), -1);
        check.due("as(-1, 0)", x.as(-1, 0), -1);
    }

    private static void promise26And27Image() {
        check.about("promises 26, 27");
        SluiceCards x = new SluiceCards();
        check.due("undo()", x.undo(), -3);
        check.due("image() of nothing", x.image(), 0);
        Check.river(x, "reach 4 0 1");
        Check.card(x, 0, 1, "1 if l=1");
        check.due("undo()", x.undo(), 0);
        check.due("no river", x.count(0), 0);
        check.due("no card", x.told(0, 0), -1);
        check.due("holds()", x.holds(), -3);
        SluiceCards y = cards();
        check.due("image()", y.image(), 7);
        check.due("undo()", y.undo(), 7);
        check.due("undo() once more", y.undo(), 7);
    }

    private static void promise27AllComesBack() {
        check.about("promise 27");
        SluiceCards x = new SluiceCards();
        Check.river(x, "reach 5 1 4;reach 4 2 3;span 2;sum 3;odds 4");
        Check.card(x, 1, 1, "2 if l>3");
        x.hang(0, 0);
        x.rain(3);
        x.rain(1);
        x.hour(3);
        Check.feed(x, "1 if l=1");
        x.image();
        x.act(0, 2, 7);
        long[] before = Look.at(x);
        int made = x.run(2);
        Check.card(x, 3, 3, ";3 if h=1");
        x.hang(0, -1);
        x.hang(1, 1);
        x.level(0, 0);
        x.hour(1);
        x.rain(-1);
        x.rain(7);
        Check.river(x, "reach 9 9 9;span 1;sum 1;odds 1");
        Check.feed(x, "2 if l=2;");
        check.due("undo()", x.undo(), 1);
        check.dueRow("all that can be asked", Look.at(x), before);
        check.due("the trace stays", x.count(4), 4);
        check.due("the trace stays", x.trace(0), 3);
        check.due("what hangs", x.hang(0, 0), 0);
        check.due("what hangs", x.hang(1, -1), -5);
        check.due("the tape's bytes", x.card(2, 2), 1);
        // the image holds on, and what was done since is gone again
        check.due("undo()", x.undo(), 1);
        check.due("count(3)", x.count(3), 8);
        check.due("run(2)", x.run(2), made);
    }

    private static void promise27CardsMadeAfterwards() {
        check.about("promise 27");
        SluiceCards x = new SluiceCards();
        Check.river(x, "reach 9 0 4");
        Check.card(x, 0, 1, "1 if l=1");
        Check.card(x, 1, 0, "2 if l=4");
        x.hang(0, 1);
        x.image();
        for (int k = 0; k < 20; k++) {
            check.due("a card more", Check.card(x, 5, 3, "3 if l=0"), 2);
            x.hang(0, 2);
            check.due("boards(0)", x.boards(0), 3);
            check.due("undo()", x.undo(), 2);
            check.due("told(2, 0)", x.told(2, 0), -1);
            check.due("boards(0)", x.boards(0), 2);
        }
    }

    private static void promise28Count() {
        check.about("promise 28");
        SluiceCards x = new SluiceCards();
        Check.river(x, "reach 1 1 1;reach 1 1 1");
        Check.card(x, 0, 0, "1 if l=1");
        x.rain(0);
        x.rain(0);
        x.rain(0);
        Check.feed(x, "abcd");
        x.act(0, 1, 1);
        int[] due = {2, 1, 3, 4, 2};
        for (int what = 0; what < 5; what++) check.due("count(" + what + ")", x.count(what), due[what]);
        check.due("count(5)", x.count(5), -1);
        check.due("count(-1)", x.count(-1), -1);
        check.due("count(min)", x.count(Integer.MIN_VALUE), -1);
    }
}
