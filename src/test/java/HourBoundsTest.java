/** Promises 7 to 9 and 11 to 13 and what Terms 2 says of AN HOUR and of RUNS: each sentence that names a bound. */
public final class HourBoundsTest {
    private static final Check check = new Check();
    private static final String NEVER = "3 if l>9";
    private static final int[] FAR = {-100, 100, Integer.MIN_VALUE, Integer.MIN_VALUE + 1, Integer.MAX_VALUE};

    public static void main(String[] args) {
        of();
        stream();
        level();
        hourBoards();
        hourOver();
        hourWays();
        hourRain();
        hourBounds();
        rain();
        run();
        runBounds();
        check.end("HourBoundsTest");
    }

    private static SluiceCards river(String text) {
        SluiceCards x = new SluiceCards();
        check.due("river() of " + text, Check.river(x, text), text.split("reach").length - 1);
        return x;
    }

    private static void levels(SluiceCards x, int... due) {
        for (int reach = 0; reach < due.length; reach++) check.due("LEVEL of " + reach, x.of(reach, 0), due[reach]);
    }

    private static void ways(SluiceCards x, int... due) {
        for (int reach = 0; reach < due.length; reach++) check.due("way of " + reach, x.of(reach, 4), due[reach]);
    }

    private static void hangAll(SluiceCards x, int v) {
        int card = Check.card(x, 0, v, NEVER);
        for (int reach = 0; reach < x.count(0); reach++) x.hang(reach, card);
    }

    // ---- promises 7 to 9

    private static void of() {
        check.about("of: NONE (of a REACH: without a RIVER, too)");
        SluiceCards none = new SluiceCards();
        for (int what = -1; what <= 5; what++) check.due("of(0, " + what + ") without a river", none.of(0, what), -1);
        String text = "reach 9 8 7";
        for (int reaches = 1; reaches <= 3; reaches++) {
            SluiceCards x = river(text + Check.times(";" + text, reaches - 1));
            int[] due = {7, 9, 8, 0, 1};
            for (int what = 0; what <= 4; what++) {
                check.due("of(-1, " + what + ")", x.of(-1, what), -1);
                check.due("of(" + reaches + ", " + what + ")", x.of(reaches, what), -1);
                check.due("of(" + (reaches - 1) + ", " + what + ")", x.of(reaches - 1, what), due[what]);
                for (int far : FAR) check.due("of(" + far + ", " + what + ")", x.of(far, what), -1);
            }
            check.due("of(0, -1)", x.of(0, -1), -1);
            check.due("of(0, 5)", x.of(0, 5), -1);
            for (int far : FAR) check.due("of(0, " + far + ")", x.of(0, far), -1);
        }
    }

    private static void stream() {
        check.about("stream: NONE; STATE");
        SluiceCards none = new SluiceCards();
        for (int what = 0; what <= 4; what++) check.due("stream(" + what + ") without a river", none.stream(what), -3);
        SluiceCards x = river("span 2;sum 4;odds 6;reach 1 0 1");
        int[] due = {2, 4, 6, 0, 1};
        for (int what = 0; what <= 4; what++) check.due("stream(" + what + ")", x.stream(what), due[what]);
        SluiceCards[] both = {none, x};
        for (SluiceCards each : both) {
            check.due("stream(-1)", each.stream(-1), -1);
            check.due("stream(5)", each.stream(5), -1);
            for (int far : FAR) check.due("stream(" + far + ")", each.stream(far), -1);
        }
    }

    private static void level() {
        levelWithinItsBank();
        levelMakesTheWay1();
        levelRefused();
    }

    private static void levelWithinItsBank() {
        check.about("LEVEL of a REACH becomes n (0 .. BANK; the way 1 then): what it was; BAD");
        for (int bank = 1; bank <= 9; bank++) {
            SluiceCards x = river("reach 9 0 3;reach " + bank + " 0 0");
            int was = 0;
            for (int n = -1; n <= 10; n++) {
                boolean bad = n < 0 || n > bank;
                check.due("level(1, " + n + ") of " + bank, x.level(1, n), bad ? -2 : was);
                if (!bad) was = n;
                check.due("LEVEL", x.of(1, 0), was);
            }
            for (int far : FAR) check.due("level(1, " + far + ")", x.level(1, far), -2);
            levels(x, 3, bank);
        }
    }

    private static void levelMakesTheWay1() {
        check.about("the way 1 then");
        SluiceCards x = river("reach 9 0 3;reach 9 0 3");
        x.hour(3);
        ways(x, 2, 2);
        check.due("to what it is", x.level(0, 4), 4);
        ways(x, 1, 2);
        check.due("BAD", x.level(1, 10), -2);
        check.due("BAD", x.level(1, -1), -2);
        ways(x, 1, 2);
        hangAll(x, 1);
        x.hour(0);
        ways(x, 0, 1);
        x.level(0, 9);
        ways(x, 1, 1);
    }

    private static void levelRefused() {
        check.about("level: NONE; BAD, of several the first one told");
        SluiceCards none = new SluiceCards(), x = river("reach 4 0 1;reach 4 0 1");
        int[] ns = {-1, 0, 4, 5, Integer.MIN_VALUE, Integer.MAX_VALUE};
        for (int n : ns) {
            check.due("level(0, " + n + ") without a river", none.level(0, n), -1);
            check.due("level(-1, " + n + ")", x.level(-1, n), -1);
            check.due("level(2, " + n + ")", x.level(2, n), -1);
            for (int far : FAR) check.due("level(" + far + ", " + n + ")", x.level(far, n), -1);
        }
        levels(x, 1, 1);
    }

    // ---- AN HOUR

    private static void hourBoards() {
        runsTheLess();
        setByWhatIsAsItBegins();
        lastOneAway();
    }

    private static void runsTheLess() {
        check.about("out of each REACH there runs what is less of its LEVEL and its BOARDS");
        for (int boards = 0; boards <= 3; boards++) {
            SluiceCards x = river("reach 9 0 0;reach 9 0 0");
            x.hang(0, Check.card(x, 0, boards, NEVER));
            for (int level = 0; level <= 9; level++) {
                int runs = Math.min(level, boards);
                x.level(0, level);
                x.level(1, 2);
                check.due("hour(0)", x.hour(0), 0);
                levels(x, level - runs, 2 + runs);
                check.due("BOARDS", x.of(0, 3), boards);
            }
        }
    }

    private static void setByWhatIsAsItBegins() {
        check.about("all BOARDS are set by what is as it begins; then out of each REACH there runs ..");
        SluiceCards x = river("reach 9 0 3;reach 9 0 0;reach 9 0 0");
        int card = Check.card(x, 1, 0, "3 if l=3");
        for (int reach = 0; reach < 3; reach++) x.hang(reach, card);
        x.hour(0);
        levels(x, 0, 3, 0);
        x.hour(0);
        levels(x, 0, 0, 3);
        x.hour(0);
        levels(x, 0, 0, 0);
        // what runs in within the hour doesn't run out in it
        SluiceCards y = river("reach 9 0 2;reach 9 0 0;reach 9 0 1");
        hangAll(y, 3);
        y.hour(0);
        levels(y, 0, 2, 0);
    }

    private static void lastOneAway() {
        check.about("one running into the next, the last one away");
        for (int reaches = 1; reaches <= 3; reaches++) {
            SluiceCards x = river("reach 9 0 2" + Check.times(";reach 9 0 0", reaches - 1));
            hangAll(x, 2);
            for (int hour = 0; hour <= reaches; hour++) {
                for (int reach = 0; reach < reaches; reach++) check.due("LEVEL of " + reach, x.of(reach, 0), reach == hour ? 2 : 0);
                check.due("hour(0)", x.hour(0), 0);
            }
        }
    }

    private static void hourOver() {
        overAboveItsBank();
        overByMuch();
        overAsBits();
    }

    private static void overAboveItsBank() {
        check.about("It goes OVER where that is above BANK (LEVEL is BANK then)");
        for (int bank = 1; bank <= 9; bank++) {
            SluiceCards x = river("reach " + bank + " 0 " + (bank - 1));
            check.due("up to BANK " + bank, x.hour(1), 0);
            levels(x, bank);
            check.due("at BANK, no RAIN", x.hour(0), 0);
            check.due("above BANK", x.hour(1), 1);
            levels(x, bank);
            hangAll(x, 1);
            check.due("at BANK, one runs out", x.hour(1), 0);
            levels(x, bank);
        }
    }

    private static void overByMuch() {
        check.about("It goes OVER where that is above BANK (LEVEL is BANK then): by 4");
        SluiceCards x = river("reach 9 0 9;reach 2 0 2;reach 9 0 0");
        x.hang(0, Check.card(x, 0, 3, NEVER));
        check.due("hour(2)", x.hour(2), 2);
        levels(x, 6, 2, 0);
        ways(x, 0, 1, 1);
    }

    private static void overAsBits() {
        check.about("REACHES that went OVER, as bits");
        for (int rain = 0; rain <= 7; rain++) {
            check.due("hour(" + rain + ")", river("reach 1 0 1;reach 5 0 5;reach 9 0 9").hour(rain), rain);
            check.due("two reaches: hour(" + rain + ")", river("reach 1 0 1;reach 5 0 5").hour(rain), rain & 3);
            check.due("one reach: hour(" + rain + ")", river("reach 1 0 1").hour(rain), rain & 1);
        }
    }

    private static void hourWays() {
        check.about("The way of each is told by LEVEL ahead of the HOUR and behind it");
        SluiceCards x = river("reach 9 0 9;reach 9 0 5;reach 9 0 0");
        ways(x, 1, 1, 1);
        check.due("hour(7): RAIN on all, 0 is OVER", x.hour(7), 1);
        ways(x, 1, 2, 2);
        hangAll(x, 1);
        x.hour(1);
        levels(x, 9, 6, 1);
        ways(x, 1, 1, 1);
        x.hour(0);
        levels(x, 8, 6, 1);
        ways(x, 0, 1, 1);
        x.hour(4);
        ways(x, 0, 1, 2);
    }

    private static void hourRain() {
        check.about("hour: RAIN (bits 0 .. 7; what falls on no REACH is lost)");
        for (int rain = 0; rain <= 7; rain++) {
            for (int reaches = 1; reaches <= 3; reaches++) {
                SluiceCards x = river("reach 9 0 0" + Check.times(";reach 9 0 0", reaches - 1));
                check.due("hour(" + rain + ")", x.hour(rain), 0);
                for (int reach = 0; reach < reaches; reach++) check.due("LEVEL of " + reach, x.of(reach, 0), rain >> reach & 1);
            }
        }
    }

    private static void hourBounds() {
        hourRefused();
        hourTill99();
    }

    private static void hourRefused() {
        check.about("hour: BAD; STATE, of several the first one told");
        int[] bad = {-1, -2, 8, 9, 16, Integer.MIN_VALUE, Integer.MAX_VALUE};
        SluiceCards none = new SluiceCards(), x = river("reach 9 0 0;reach 9 0 0;reach 9 0 0");
        for (int rain : bad) {
            check.due("hour(" + rain + ") without a river", none.hour(rain), -2);
            check.due("hour(" + rain + ")", x.hour(rain), -2);
        }
        for (int rain = 0; rain <= 7; rain++) check.due("hour(" + rain + ") without a river", none.hour(rain), -3);
        levels(x, 0, 0, 0);
        check.due("the HOUR", x.stream(3), 0);
    }

    private static void hourTill99() {
        check.about("HOUR is one more (0 .. 99); STATE: also at HOUR 99");
        SluiceCards x = river("reach 9 0 0");
        for (int hour = 0; hour < 99; hour++) {
            check.due("the HOUR", x.stream(3), hour);
            check.due("hour(0) at " + hour, x.hour(0), 0);
        }
        check.due("the HOUR", x.stream(3), 99);
        check.due("hour(1) at 99", x.hour(1), -3);
        check.due("hour(8) at 99, BAD ahead of STATE", x.hour(8), -2);
        check.due("the HOUR", x.stream(3), 99);
        levels(x, 0);
        ways(x, 1);
        check.due("hour(0) at 99 again", x.hour(0), -3);
        check.due("level() still is", x.level(0, 3), 0);
        check.due("holds() still is", x.holds(), 1);
        Check.river(x, "reach 9 0 0");
        check.due("a new river: hour(1)", x.hour(1), 0);
        check.due("the HOUR", x.stream(3), 1);
    }

    // ---- the RAIN told by hand

    private static void rain() {
        rainTenHours();
        rainEmptied();
        rainRefused();
    }

    private static void rainTenHours() {
        check.about("A RUN by a RAIN told by hand (10 HOURS at most); FULL: 10");
        SluiceCards x = new SluiceCards();
        for (int k = 1; k <= 10; k++) {
            check.due("rain(" + (k & 7) + ")", x.rain(k & 7), k);
            check.due("count(2)", x.count(2), k);
        }
        check.due("an eleventh", x.rain(1), -4);
        check.due("an eleventh without RAIN", x.rain(0), -4);
        check.due("count(2)", x.count(2), 10);
        Check.river(x, "reach 9 0 0");
        check.due("1, 3, 5, 7 and 1 fell on it", x.run(2), 5);
    }

    private static void rainEmptied() {
        check.about("rain: (-1: it is empty then, 0)");
        SluiceCards x = new SluiceCards();
        check.due("of none", x.rain(-1), 0);
        for (int k = 0; k < 10; k++) x.rain(7);
        check.due("of ten, ahead of FULL", x.rain(-1), 0);
        check.due("count(2)", x.count(2), 0);
        check.due("the first again", x.rain(0), 1);
        Check.river(x, "reach 9 0 4");
        check.due("what was told before falls no more", x.run(2), 4);
        check.due("again", x.rain(-1), 0);
        check.due("run(2)", x.run(2), 4);
    }

    private static void rainRefused() {
        check.about("rain: BAD; FULL, of several the first one told");
        int[] bad = {-2, -3, 8, 9, Integer.MIN_VALUE, Integer.MAX_VALUE};
        SluiceCards x = new SluiceCards();
        for (int r : bad) check.due("rain(" + r + ")", x.rain(r), -2);
        check.due("count(2)", x.count(2), 0);
        for (int k = 0; k < 8; k++) check.due("rain(" + k + ")", x.rain(k), k + 1);
        x.rain(0);
        x.rain(0);
        for (int r : bad) check.due("rain(" + r + ") of ten", x.rain(r), -2);
        check.due("count(2)", x.count(2), 10);
    }

    // ---- RUNS

    private static void run() {
        runOver();
        runDry();
        runMade();
        runRainOnNoReach();
        runFromNow();
    }

    private static SluiceCards rained(String text, int... rain) {
        SluiceCards x = river(text);
        for (int r : rain) x.rain(r);
        return x;
    }

    private static void runOver() {
        check.about("OVER: the first HOUR of the RUN (from 0) in which some bank is gone over, times 10, and the first such REACH (-5: none)");
        check.due("none told", rained("reach 1 0 1").run(0), -5);
        check.due("up to the bank", rained("reach 3 0 1", 1, 1).run(0), -5);
        check.due("above it in HOUR 2", rained("reach 3 0 1", 1, 1, 1).run(0), 20);
        check.due("at once", rained("reach 1 0 1", 1).run(0), 0);
        check.due("at once, REACH 2", rained("reach 1 0 1;reach 1 0 1;reach 1 0 1", 4, 1).run(0), 2);
        check.due("two of them", rained("reach 1 0 1;reach 1 0 1;reach 1 0 1", 6, 1).run(0), 1);
        check.due("in the last of ten", rained("reach 9 0 0;reach 9 0 0;reach 9 0 0", 4, 4, 4, 4, 4, 4, 4, 4, 4, 4).run(0), 92);
        check.due("the first counts, though a later one is of REACH 0", rained("reach 2 0 1;reach 1 0 1", 2, 1, 1).run(0), 1);
        check.due("the first counts, though it goes on", rained("reach 1 0 1", 0, 1, 1, 1).run(0), 10);
    }

    private static void runDry() {
        check.about("DRY likewise; a MILL is DRY where LEVEL then is below MILL");
        check.due("none told", rained("reach 9 9 0").run(1), -5);
        check.due("LEVEL as MILL", rained("reach 9 3 3", 0).run(1), -5);
        check.due("LEVEL below MILL", rained("reach 9 3 2", 0).run(1), 0);
        check.due("LEVEL then", rained("reach 9 3 2", 1).run(1), -5);
        check.due("MILL 0", rained("reach 9 0 0", 0).run(1), -5);
        check.due("MILL above BANK", rained("reach 2 3 2", 1).run(1), 0);
        check.due("MILL at BANK", rained("reach 2 2 2", 1).run(1), -5);
        check.due("REACH 2", rained("reach 9 0 0;reach 9 1 1;reach 9 1 0", 0).run(1), 2);
        check.due("two of them", rained("reach 9 0 0;reach 9 1 0;reach 9 1 0", 0).run(1), 1);
        SluiceCards x = rained("reach 9 0 0;reach 9 0 0;reach 9 1 9", 0, 0, 0, 0, 0, 0, 0, 0, 0, 0);
        x.hang(2, Check.card(x, 0, 1, NEVER));
        check.due("dry behind nine hours", x.run(1), 82);
        x.rain(-1);
        for (int k = 0; k < 8; k++) x.rain(0);
        check.due("eight hours: not yet", x.run(1), -5);
        x.rain(4);
        check.due("nor with RAIN", x.run(1), -5);
        x.rain(0);
        check.due("in the last of ten", x.run(1), 92);
    }

    private static void runMade() {
        check.about("MADE: the sum of all LEVELS behind its last HOUR");
        check.due("none told: as now", rained("reach 9 0 9;reach 9 0 9;reach 9 0 9").run(2), 27);
        check.due("all full", rained("reach 9 0 9;reach 9 0 9;reach 9 0 9", 7).run(2), 27);
        check.due("all empty", rained("reach 9 0 0;reach 9 0 0;reach 9 0 0", 0).run(2), 0);
        check.due("three fell", rained("reach 9 0 0;reach 9 0 0;reach 9 0 0", 1, 4, 2).run(2), 3);
        check.due("above a bank it is lost", rained("reach 1 0 1;reach 1 0 0", 3, 3).run(2), 2);
    }

    private static void runRainOnNoReach() {
        check.about("rain: what falls on no REACH is lost");
        check.due("one reach", rained("reach 9 0 0", 7, 6, 2, 4).run(2), 1);
        check.due("two reaches", rained("reach 9 0 0;reach 9 0 0", 7, 6, 2, 4).run(2), 4);
        check.due("three reaches", rained("reach 9 0 0;reach 9 0 0;reach 9 0 0", 7, 6, 2, 4).run(2), 7);
        check.due("OVER", rained("reach 1 0 1", 6, 4, 2, 1).run(0), 30);
    }

    private static void runFromNow() {
        check.about("A RUN .. from all as it is now");
        SluiceCards x = rained("reach 4 1 0;reach 9 0 0", 1, 1);
        x.hang(0, Check.card(x, 3, 3, "0 if w=2"));
        // rises to 1; then SLOW: 0 and 1 more is 1
        check.due("MADE", x.run(2), 2);
        check.due("DRY", x.run(1), -5);
        x.level(0, 4);
        // SLOW to 1: 4 - 1 + 1, stood: SLOW to 2: 4 - 2 + 1, 3 below
        check.due("OVER", x.run(0), -5);
        check.due("MADE", x.run(2), 6);
        x.hang(0, -1);
        check.due("OVER, no card", x.run(0), 0);
        check.due("MADE", x.run(2), 4);
        check.due("the HOUR", x.stream(3), 0);
        levels(x, 4, 0);
    }

    private static void runBounds() {
        runRefused();
        runBeyond99();
    }

    private static void runRefused() {
        check.about("run: NONE; STATE, of several the first one told");
        SluiceCards none = new SluiceCards(), x = river("reach 9 0 0");
        none.rain(1);
        for (int what = 0; what <= 2; what++) check.due("run(" + what + ") without a river", none.run(what), -3);
        int[] outside = {-1, 3, 4, Integer.MIN_VALUE, Integer.MAX_VALUE};
        for (int what : outside) {
            check.due("run(" + what + ") without a river", none.run(what), -1);
            check.due("run(" + what + ")", x.run(what), -1);
        }
        check.due("run(2)", x.run(2), 0);
    }

    private static void runBeyond99() {
        check.about("HOURS may go beyond 99");
        SluiceCards x = river("reach 9 0 9");
        for (int k = 0; k < 99; k++) x.hour(0);
        // told by turns: 99 % 2 is the second line, 100 the first; by h: above 9 in all of them
        x.hang(0, Check.card(x, 5, 0, "1 if l>9;0 if l>9"));
        for (int k = 1; k <= 10; k++) {
            x.rain(0);
            check.due(k + " hours from 99 on", x.run(2), 9 - k / 2);
        }
        x.hang(0, Check.card(x, 6, 0, "1 if l>9;2 if l>9;0 if l>9"));
        // as they were, 0, in 99; then 100 % 3 is the second line, 2, and 101 keeps them; 102: 1, 103; 104: 0, 105; 106: 2 ..
        int[] made = {9, 7, 5, 4, 3, 3, 3, 1, 0, 0};
        x.rain(-1);
        for (int k = 0; k < 10; k++) {
            x.rain(0);
            check.due((k + 1) + " hours from 99 on, STUCK", x.run(2), made[k]);
        }
        x.hang(0, Check.card(x, 1, 0, "1 if h>9"));
        check.due("h above 9", x.run(2), 0);
        check.due("the HOUR", x.stream(3), 99);
    }
}
