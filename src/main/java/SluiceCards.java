/** Each sluice by its own gauge: a river of reaches, each with a keeper who sees his own level alone and has a card. */
public final class SluiceCards {
    public static final int NONE = -1, BAD = -2, STATE = -3, FULL = -4;
    public static final long NO = Long.MIN_VALUE;

    private static final int NOTHING = -5, OTHER_KIND = -6, FAULTS = -10;
    private static final int MOST_BYTES = 120, MOST_CLAUSES = 12, MOST_REACHES = 3, MOST_HOURS = 3;
    private static final int MOST_LINES = 6, MOST_OPEN = 5, MOST_CARDS = 8, MOST_TOLD_HOURS = 10;
    private static final int MOST_BOARDS = 3, MOST_BANK = 9, LAST_HOUR = 99, KEPT_BODIES = 20;
    private static final int CARD = 0, LEVEL = 1, RISING = 2, SLOW = 3, BELL = 4, TOLD = 5, STUCK = 6, KINDS = 7;
    private static final int FELL = 0, STOOD = 1, ROSE = 2;
    private static final int SEES = 0, SETS = 1, WAKES = 2, ACTS = 3;

    private final World now;
    private final World kept;
    private final RiverReader riverReader;
    private final CardReader cardReader;
    private final Trial trial;
    private final Trace latest;
    private boolean imageTaken;

    public SluiceCards() {
        now = new World();
        kept = new World();
        riverReader = new RiverReader();
        cardReader = new CardReader();
        trial = new Trial();
        latest = new Trace();
        imageTaken = false;
    }

    // ---- texts

    public int feed(long w, int n) {
        if (n < 1 || n > 8) return BAD;
        if (now.bytes + n > MOST_BYTES) return FULL;
        for (int k = n - 1; k >= 0; k--) now.putByte((int) (w >>> (8 * k)) & 255);
        return now.bytes;
    }

    public int river() {
        int fault = riverReader.reads(now);
        now.bytes = 0;
        if (fault >= 0) return FAULTS - fault;
        now.river.becomes(riverReader.read);
        return now.river.reaches;
    }

    public int card(int kind, int v) {
        if (kind < 0 || kind >= KINDS) return NONE;
        if (v < 0 || v > MOST_BOARDS) return BAD;
        if (now.cardCount >= MOST_CARDS) return FULL;
        int fault = cardReader.reads(now);
        now.bytes = 0;
        if (fault >= 0) return FAULTS - fault;
        int number = now.cardCount;
        now.putCard(new Card(number, kind, v, cardReader));
        return number;
    }

    public int told(int card, int what) {
        Card it = now.cardOf(card);
        if (it == null) return NONE;
        switch (what) {
            case 0: return it.kind;
            case 1: return it.v;
            case 2: return it.lineCount;
            default: return NONE;
        }
    }

    public int hang(int reach, int card) {
        if (!isReach(reach)) return NONE;
        if (card != -1 && now.cardOf(card) == null) return NONE;
        int[] hung = now.river.hung;
        int before = hung[reach];
        hung[reach] = card;
        return before < 0 ? NOTHING : before;
    }

    // ---- reaches, hours

    public int of(int reach, int what) {
        if (!isReach(reach)) return NONE;
        River river = now.river;
        switch (what) {
            case 0: return river.water.level[reach];
            case 1: return river.bank[reach];
            case 2: return river.mill[reach];
            case 3: return river.water.boards[reach];
            case 4: return river.water.way[reach];
            default: return NONE;
        }
    }

    public int stream(int what) {
        if (what < 0 || what > 4) return NONE;
        if (!isRiver()) return STATE;
        River river = now.river;
        switch (what) {
            case 0: return river.span;
            case 1: return river.sum;
            case 2: return river.odds;
            case 3: return river.water.hour;
            default: return river.water.level[0] == river.bank[0] ? 1 : 0;
        }
    }

    public int level(int reach, int n) {
        if (!isReach(reach)) return NONE;
        River river = now.river;
        if (n < 0 || n > river.bank[reach]) return BAD;
        int before = river.water.level[reach];
        river.water.level[reach] = n;
        river.water.way[reach] = STOOD;
        return before;
    }

    public int boards(int reach) {
        if (!isReach(reach)) return NONE;
        trial.begin(now);
        return trial.boardsNext(reach);
    }

    public int hour(int rain) {
        if (rain < 0 || rain > 7) return BAD;
        if (!isRiver() || now.river.water.hour >= LAST_HOUR) return STATE;
        trial.begin(now);
        int over = trial.goesBy(rain);
        now.river.water.becomes(trial.start);
        return over;
    }

    // ---- rains

    public int rain(int reaches) {
        if (reaches < -1 || reaches > 7) return BAD;
        if (reaches == -1) {
            now.toldHours = 0;
            return 0;
        }
        if (now.toldHours >= MOST_TOLD_HOURS) return FULL;
        now.putRain(reaches);
        return now.toldHours;
    }

    public int run(int what) {
        if (what < 0 || what > 2) return NONE;
        if (!isRiver()) return STATE;
        trial.begin(now);
        int over = NOTHING;
        int dry = NOTHING;
        for (int k = 0; k < now.toldHours && k < now.toldRain.length; k++) {
            int gone = trial.goesBy(now.toldRain[k]);
            int parched = trial.dryMills(trial.start);
            if (over == NOTHING && gone != 0) over = k * 10 + lowestOf(gone);
            if (dry == NOTHING && parched != 0) dry = k * 10 + lowestOf(parched);
        }
        return what == 0 ? over : what == 1 ? dry : trial.sumOfLevels();
    }

    public int holds() {
        if (!isRiver()) return STATE;
        trial.begin(now);
        return trial.isSafe() ? 1 : 0;
    }

    public int fails(int i) {
        if (i < -1 || i >= MOST_HOURS) return NONE;
        if (!isRiver()) return STATE;
        trial.begin(now);
        if (trial.isSafe() || i >= trial.failingHours) return NOTHING;
        return i == -1 ? trial.failingHours : trial.rainOf(i);
    }

    // ---- what holds

    public int fixed(int i) {
        if (i != -1 && !isReach(i)) return NONE;
        if (!isRiver()) return STATE;
        trial.begin(now);
        int rows = 0;
        int first = NOTHING;
        for (int row = 0; row < 1 << (2 * now.river.reaches); row++) {
            trial.fixBoards(row);
            if (!trial.isSafe()) continue;
            if (rows == 0 && i >= 0) first = trial.start.boards[i];
            rows++;
        }
        return i == -1 ? rows : first;
    }

    public int found(int reach) {
        if (!isReach(reach)) return NONE;
        Card hung = now.cardOf(now.river.hung[reach]);
        if (hung == null) return NOTHING;
        trial.begin(now);
        for (int v = 0; v <= MOST_BOARDS; v++) {
            trial.putInstead(new Card(hung, v, -1));
            if (trial.isSafe()) return v;
        }
        return NOTHING;
    }

    public int lines(int card) {
        Card it = now.cardOf(card);
        if (it == null) return NONE;
        if (!isRiver()) return STATE;
        trial.begin(now);
        if (!trial.isSafe()) return 0;
        int needed = 0;
        for (int line = 0; line < it.lineCount; line++) {
            trial.putInstead(new Card(it, it.v, line));
            if (!trial.isSafe()) needed |= 1 << line;
        }
        return needed;
    }

    public int drunk(int what) {
        if (what < 0 || what > 1) return NONE;
        if (!isRiver()) return STATE;
        trial.begin(now);
        int drunkards = 0;
        int sleepers = NOTHING;
        for (int set = 0; set < 1 << now.river.reaches; set++) {
            trial.asleep = set;
            if (!trial.isSafe()) continue;
            if (Integer.bitCount(set) == 1) drunkards |= set;
            // Sets come from the least on: only a greater one takes the place.
            if (sleepers < 0 || Integer.bitCount(set) > Integer.bitCount(sleepers)) sleepers = set;
        }
        return what == 0 ? drunkards : sleepers;
    }

    public int raised() {
        if (!isRiver()) return STATE;
        trial.begin(now);
        for (int more = 0; more <= MOST_BANK; more++) {
            trial.raiseBanks(now.river, more);
            if (trial.isSafe()) return more;
        }
        return NOTHING;
    }

    public long mean(int n, int what, int part) {
        if (n < 1 || n > MOST_HOURS || what < 0 || what > 1 || part < 0 || part > 1) return NO;
        if (!isRiver()) return NO;
        trial.begin(now);
        long above = trial.weightOver(n, what == 1);
        long below = powerOfTen(n * now.river.reaches);
        long common = commonDivisor(above, below);
        if (common < 1) return NO;
        return (part == 0 ? above : below) / common;
    }

    public int same(int what) {
        if (what < 0 || what > 1) return NONE;
        if (!isRiver()) return STATE;
        trial.begin(now);
        if (what == 1) {
            if (!trial.isSafe()) return NOTHING;
            trial.silent = true;
            return trial.isSafe() ? 0 : 1;
        }
        int able = 0;
        for (int number = 0; number < now.cardCount; number++) {
            trial.hangAll(now.cardOf(number));
            if (trial.isSafe()) able |= 1 << number;
        }
        return able;
    }

    // ---- acts, the image

    public int act(int card, int act, int x) {
        Card it = now.cardOf(card);
        latest.clear();
        if (it == null || act < 0 || act >= ACTS) return 0;
        return latest.perform(it, act, x);
    }

    public int trace(int i) {
        if (i < 0 || i >= latest.bodies || i >= latest.kept.length) return NONE;
        return latest.kept[i];
    }

    public int as(int card, int k) {
        Card it = now.cardOf(card);
        if (it == null || k < 0 || k >= KINDS) return NONE;
        return it.isUnder(k) ? it.v : OTHER_KIND;
    }

    public int image() {
        kept.becomes(now);
        imageTaken = true;
        return now.cardCount;
    }

    public int undo() {
        if (!imageTaken) return STATE;
        now.becomes(kept);
        return now.cardCount;
    }

    public int count(int what) {
        switch (what) {
            case 0: return now.river.reaches;
            case 1: return now.cardCount;
            case 2: return now.toldHours;
            case 3: return now.bytes;
            case 4: return latest.bodies;
            default: return NONE;
        }
    }

    private boolean isRiver() {
        return now.river.reaches > 0;
    }

    private boolean isReach(int reach) {
        return reach >= 0 && reach < now.river.reaches && reach < MOST_REACHES;
    }

    private static int lowestOf(int bits) {
        for (int i = 0; i < 32; i++) {
            if ((bits >> i & 1) == 1) return i;
        }
        return 0;
    }

    private static long powerOfTen(int exponent) {
        long power = 1;
        for (int k = 0; k < exponent; k++) power *= 10;
        return power;
    }

    private static long commonDivisor(long one, long other) {
        long a = one;
        long b = other;
        // Below 10 to the 9th some 45 steps are enough.
        for (int k = 0; k < 100 && b != 0; k++) {
            long rest = a % b;
            a = b;
            b = rest;
        }
        return a;
    }

    private static void copyRow(int[] from, int[] to) {
        System.arraycopy(from, 0, to, 0, Math.min(from.length, to.length));
    }

    /** All that there is, but the image and the trace. */
    private static final class World {
        final int[] tape = new int[MOST_BYTES];
        int bytes = 0;
        final River river = new River();
        final Card[] cards = new Card[MOST_CARDS];
        int cardCount = 0;
        final int[] toldRain = new int[MOST_TOLD_HOURS];
        int toldHours = 0;

        void becomes(World other) {
            copyRow(other.tape, tape);
            bytes = other.bytes;
            river.becomes(other.river);
            for (int k = 0; k < other.cards.length && k < cards.length; k++) cards[k] = other.cards[k];
            cardCount = other.cardCount;
            copyRow(other.toldRain, toldRain);
            toldHours = other.toldHours;
        }

        void putByte(int value) {
            if (bytes < 0 || bytes >= tape.length) return;
            tape[bytes] = value;
            bytes++;
        }

        void putCard(Card card) {
            if (cardCount < 0 || cardCount >= cards.length) return;
            cards[cardCount] = card;
            cardCount++;
        }

        void putRain(int reaches) {
            if (toldHours < 0 || toldHours >= toldRain.length) return;
            toldRain[toldHours] = reaches;
            toldHours++;
        }

        /** The card of a number, or null. */
        Card cardOf(int number) {
            if (number < 0 || number >= cardCount || number >= cards.length) return null;
            return cards[number];
        }
    }

    /** A river with its water as it is now; without reaches there is none. */
    private static final class River {
        int reaches = 0;
        int span = 0;
        int sum = 0;
        int odds = 0;
        final int[] bank = new int[MOST_REACHES];
        final int[] mill = new int[MOST_REACHES];
        final int[] hung = new int[MOST_REACHES];
        final Water water = new Water(null);

        void clear() {
            reaches = 0;
            span = 3;
            sum = 9;
            odds = 5;
            water.hour = 0;
        }

        void addReach(int itsBank, int itsMill, int itsLevel) {
            int reach = reaches;
            if (reach < 0 || reach >= MOST_REACHES) return;
            bank[reach] = itsBank;
            mill[reach] = itsMill;
            hung[reach] = -1;
            water.level[reach] = Math.min(itsLevel, itsBank);
            water.boards[reach] = 0;
            water.way[reach] = STOOD;
            reaches = reach + 1;
        }

        void becomes(River other) {
            reaches = other.reaches;
            span = other.span;
            sum = other.sum;
            odds = other.odds;
            copyRow(other.bank, bank);
            copyRow(other.mill, mill);
            copyRow(other.hung, hung);
            water.becomes(other.water);
        }
    }

    /** The water of all reaches as an hour begins, and where the water of the hour after it is worked out. */
    private static final class Water {
        final int[] level = new int[MOST_REACHES];
        final int[] boards = new int[MOST_REACHES];
        final int[] way = new int[MOST_REACHES];
        /** What stands in each reach when the boards have let out, before the rain. */
        final int[] beforeRain = new int[MOST_REACHES];
        int hour = 0;
        /** The rain that led here, as the search for a failing rain leaves it. */
        int rainBefore = 0;
        final Water next;

        Water(Water next) {
            this.next = next;
        }

        void becomes(Water other) {
            copyRow(other.level, level);
            copyRow(other.boards, boards);
            copyRow(other.way, way);
            hour = other.hour;
        }
    }

    /** Reads a tape from its first byte on and keeps the first place at which it can't go on. */
    private static class Reader {
        private final int[] tape = new int[MOST_BYTES];
        private int size = 0;
        private int place = 0;
        private int fault = -1;

        final void begin(World world) {
            copyRow(world.tape, tape);
            size = Math.max(0, Math.min(world.bytes, tape.length));
            place = 0;
            fault = -1;
        }

        /** The byte that is next; -1 at the end or behind a fault. */
        final int next() {
            if (fault >= 0 || place < 0 || place >= size || place >= tape.length) return -1;
            return tape[place];
        }

        final boolean takes(char sign) {
            if (next() != sign) return false;
            place++;
            return true;
        }

        final void needs(char sign) {
            if (!takes(sign)) fail();
        }

        final void needsAll(String signs) {
            for (int k = 0; k < signs.length(); k++) {
                if (!takes(signs.charAt(k))) fail();
            }
        }

        final int digit(int least, int most) {
            int digit = next() - '0';
            if (digit < least || digit > most) {
                fail();
                return least;
            }
            place++;
            return digit;
        }

        /** Which of these signs is next. */
        final int oneOf(String signs) {
            int sign = next();
            for (int k = 0; k < signs.length(); k++) {
                if (signs.charAt(k) != sign) continue;
                place++;
                return k;
            }
            fail();
            return 0;
        }

        final void fail() {
            if (fault < 0) fault = place;
        }

        final void needsEnd() {
            if (place < size) fail();
        }

        final int faultPlace() {
            return fault;
        }
    }

    /** Reads a river. */
    private static final class RiverReader extends Reader {
        final River read = new River();

        /** The fault, or -1. */
        int reads(World world) {
            begin(world);
            read.clear();
            boolean more = true;
            for (int n = 1; n <= MOST_CLAUSES && more; n++) {
                readClause();
                more = n < MOST_CLAUSES && takes(';');
            }
            needsEnd();
            if (read.reaches == 0) fail();
            return faultPlace();
        }

        private void readClause() {
            if (next() == 'r' && read.reaches < MOST_REACHES) {
                readReach();
            } else if (takes('o')) {
                needsAll("dds ");
                read.odds = digit(0, 9);
            } else if (takes('s')) {
                readSpanOrSum();
            } else {
                fail();
            }
        }

        private void readReach() {
            needsAll("reach ");
            int bank = digit(1, 9);
            needs(' ');
            int mill = digit(0, 9);
            needs(' ');
            int level = digit(0, 9);
            read.addReach(bank, mill, level);
        }

        private void readSpanOrSum() {
            if (takes('p')) {
                needsAll("an ");
                read.span = Math.max(1, Math.min(MOST_HOURS, digit(0, 9)));
            } else {
                needsAll("um ");
                read.sum = digit(0, 9);
            }
        }
    }

    /** Reads the lines of a card; what stands behind an if becomes steps, the operators behind what they join. */
    private static final class CardReader extends Reader {
        final int[] digits = new int[MOST_LINES];
        final int[] begins = new int[MOST_LINES];
        final int[] ends = new int[MOST_LINES];
        final int[] steps = new int[MOST_BYTES];
        int lineCount = 0;
        int stepCount = 0;

        /** The fault, or -1. */
        int reads(World world) {
            begin(world);
            lineCount = 0;
            stepCount = 0;
            boolean more = true;
            for (int n = 0; n < MOST_LINES && more; n++) {
                digits[n] = digit(0, MOST_BOARDS);
                needsAll(" if ");
                begins[n] = stepCount;
                readEither(0);
                ends[n] = stepCount;
                lineCount = n + 1;
                more = lineCount < MOST_LINES && takes(';');
            }
            needsEnd();
            return faultPlace();
        }

        private void readEither(int open) {
            readBoth(open);
            for (int n = 0; n < MOST_BYTES && takes('|'); n++) {
                readBoth(open);
                putStep(Card.EITHER);
            }
        }

        private void readBoth(int open) {
            readSingle(open);
            for (int n = 0; n < MOST_BYTES && takes('&'); n++) {
                readSingle(open);
                putStep(Card.BOTH);
            }
        }

        private void readSingle(int open) {
            boolean mayOpen = open < MOST_OPEN;
            if (mayOpen && takes('!')) {
                readSingle(open + 1);
                putStep(Card.NOT);
            } else if (mayOpen && takes('(')) {
                readEither(open + 1);
                if (!takes(')')) fail();
            } else {
                int what = oneOf("lhwc");
                int how = oneOf("<=>");
                putStep(what * 100 + how * 10 + digit(0, 9));
            }
        }

        private void putStep(int step) {
            if (stepCount < 0 || stepCount >= steps.length) return;
            steps[stepCount] = step;
            stepCount++;
        }
    }

    /** What a keeper sees as an hour begins. */
    private static final class Sight {
        int level = 0;
        int hour = 0;
        int way = STOOD;
        int bell = 0;

        /** Whether a test holds: its digit, 10 times the place of its sign in <=>, 100 times that of its letter in lhwc. */
        boolean passes(int test) {
            int what = test / 100;
            int seen = what == 0 ? level : what == 1 ? hour : what == 2 ? way : bell;
            int digit = test % 10;
            switch (test / 10 % 10) {
                case 0: return seen < digit;
                case 1: return seen == digit;
                default: return seen > digit;
            }
        }
    }

    /** A card; it never changes. */
    private static final class Card {
        static final int NOT = -1, BOTH = -2, EITHER = -3;
        /** For each kind the one above it. */
        private static final int[] ABOVE = {-1, CARD, LEVEL, RISING, LEVEL, CARD, TOLD};

        final int number;
        final int kind;
        final int v;
        final int lineCount;
        /** The line that is left out, or -1. */
        final int leftOut;
        private final int[] digits;
        private final int[] begins;
        private final int[] ends;
        private final int[] steps;

        Card(int number, int kind, int v, CardReader text) {
            this.number = number;
            this.kind = kind;
            this.v = v;
            lineCount = text.lineCount;
            leftOut = -1;
            digits = text.digits.clone();
            begins = text.begins.clone();
            ends = text.ends.clone();
            steps = text.steps.clone();
        }

        /** The same card with another v or without a line. */
        Card(Card other, int v, int leftOut) {
            number = other.number;
            kind = other.kind;
            this.v = v;
            lineCount = other.lineCount;
            this.leftOut = leftOut;
            digits = other.digits;
            begins = other.begins;
            ends = other.ends;
            steps = other.steps;
        }

        static int above(int kind) {
            return kind < 0 || kind >= ABOVE.length ? -1 : ABOVE[kind];
        }

        /** Whether it is of a kind or of one under that. */
        boolean isUnder(int wanted) {
            int up = kind;
            for (int n = 0; n < KINDS && up >= 0; n++) {
                if (up == wanted) return true;
                up = above(up);
            }
            return false;
        }

        /** The boards that it sets, by what is seen and what they were. */
        int boardsBy(Sight sight, int were) {
            switch (kind) {
                case LEVEL: return byLines(sight);
                case RISING: return risen(byLines(sight), sight);
                case SLOW: return Math.max(were - 1, Math.min(were + 1, risen(byLines(sight), sight)));
                case BELL: return sight.bell == 1 ? MOST_BOARDS : byLines(sight);
                case TOLD: return inTurn(sight.hour);
                case STUCK: return (sight.hour & 1) == 0 ? inTurn(sight.hour) : were;
                default: return v;
            }
        }

        private static int risen(int boards, Sight sight) {
            return sight.way == ROSE ? Math.min(MOST_BOARDS, boards + 1) : boards;
        }

        private int byLines(Sight sight) {
            for (int line = 0; line < lineCount && line < digits.length; line++) {
                if (line != leftOut && lineHolds(line, sight)) return digits[line];
            }
            return v;
        }

        private int inTurn(int hour) {
            int turns = leftOut < 0 ? lineCount : lineCount - 1;
            if (turns < 1) return v;
            int line = Math.floorMod(hour, turns);
            if (leftOut >= 0 && line >= leftOut) line++;
            return line < 0 || line >= digits.length ? v : digits[line];
        }

        private boolean lineHolds(int line, Sight sight) {
            if (line < 0 || line >= begins.length || line >= ends.length) return false;
            // A stack of bits, the top one lowest: five open brackets need some dozen of them.
            int stack = 0;
            for (int k = Math.max(0, begins[line]); k < ends[line] && k < steps.length; k++) {
                int step = steps[k];
                if (step == NOT) stack ^= 1;
                else if (step == BOTH) stack = stack >> 1 & (stack | -2);
                else if (step == EITHER) stack = stack >> 1 | stack & 1;
                else stack = stack << 1 | (sight.passes(step) ? 1 : 0);
            }
            return (stack & 1) == 1;
        }
    }

    /** The bodies that ran in the latest act, and how they run. */
    private static final class Trace {
        private static final int MOST_DEEP = 40;
        /** For each kind the numbers of its bodies for sees, sets, wakes; 0 is none. */
        private static final int[] BODIES = {
            1, 2, 3,
            11, 0, 0,
            0, 21, 0,
            0, 0, 41,
            51, 0, 0,
            0, 0, 31,
            0, 61, 0,
        };

        final int[] kept = new int[KEPT_BODIES];
        int bodies = 0;

        void clear() {
            bodies = 0;
        }

        int perform(Card card, int act, int x) {
            return runFrom(card, card.kind, act, x, 0);
        }

        /** Runs the body of the first kind, from one on upwards, that has one for the act. */
        private int runFrom(Card card, int from, int act, int x, int deep) {
            int kind = from;
            for (int n = 0; n < KINDS && bodyOf(kind, act) == 0; n++) kind = Card.above(kind);
            int body = bodyOf(kind, act);
            if (body == 0 || deep > MOST_DEEP) return 0;
            note(body);
            int up = Card.above(kind);
            int own = card.kind;
            switch (body) {
                case 1: return x + card.number;
                case 2: return runFrom(card, own, SEES, x, deep + 1) - card.v;
                case 3: return runFrom(card, own, SETS, x, deep + 1) * 2;
                case 11: return runFrom(card, up, SEES, x * 3, deep + 1);
                case 21: return -runFrom(card, up, SETS, x, deep + 1);
                case 31: return runFrom(card, up, WAKES, x, deep + 1) ^ 7;
                case 41: return runFrom(card, up, WAKES, x - 1, deep + 1) + runFrom(card, own, SEES, 2, deep + 1);
                case 51: return runFrom(card, up, SEES, x, deep + 1) ^ card.number;
                case 61: return runFrom(card, up, SETS, x, deep + 1) + card.v;
                default: return 0;
            }
        }

        private void note(int body) {
            if (bodies >= 0 && bodies < kept.length) kept[bodies] = body;
            bodies++;
        }

        private static int bodyOf(int kind, int act) {
            int place = kind * ACTS + act;
            return kind < 0 || act < 0 || act >= ACTS || place >= BODIES.length ? 0 : BODIES[place];
        }
    }

    /** A river as it is now or as it might be: what would come of it by this rain or that. */
    private static final class Trial {
        private final River river = new River();
        private final Card[] cards = new Card[MOST_REACHES];
        /** The reaches that keep their boards, as bits. */
        int asleep = 0;
        /** Whether the bell never rings. */
        boolean silent = false;
        /** How many hours the rain has by which they fail; 0 when they hold. */
        int failingHours = 0;
        private final Sight sight = new Sight();
        final Water start = new Water(new Water(new Water(new Water(null))));

        /** All as it is now. */
        void begin(World world) {
            river.becomes(world.river);
            for (int i = 0; i < MOST_REACHES; i++) cards[i] = i < river.reaches ? world.cardOf(river.hung[i]) : null;
            asleep = 0;
            silent = false;
            start.becomes(river.water);
        }

        /** A card, changed, hangs wherever it hung. */
        void putInstead(Card other) {
            for (int i = 0; i < MOST_REACHES; i++) {
                Card card = cards[i];
                if (card != null && card.number == other.number) cards[i] = other;
            }
        }

        void hangAll(Card card) {
            for (int i = 0; i < MOST_REACHES; i++) cards[i] = card;
        }

        /** Boards that are never changed: a row as a number, that of the first reach in its highest bits. */
        void fixBoards(int row) {
            asleep = (1 << MOST_REACHES) - 1;
            int rest = row;
            for (int i = Math.min(river.reaches, MOST_REACHES) - 1; i >= 0; i--) {
                start.boards[i] = rest & 3;
                rest >>= 2;
            }
        }

        void raiseBanks(River told, int more) {
            for (int i = 0; i < MOST_REACHES; i++) river.bank[i] = Math.min(MOST_BANK, told.bank[i] + more);
        }

        /** Whether by no rain of span and sum a bank is gone over; if by some, the waters keep the shortest. */
        boolean isSafe() {
            for (int hours = 1; hours <= river.span && hours <= MOST_HOURS; hours++) {
                failingHours = hours;
                if (goesOver(start, hours, river.sum)) return false;
            }
            failingHours = 0;
            return true;
        }

        int rainOf(int hour) {
            Water water = start.next;
            for (int k = 0; k < hour && water != null; k++) water = water.next;
            return water == null ? NOTHING : water.rainBefore;
        }

        /** Whether a bank is gone over in the last of some hours, by what is left of the rain; no fewer hours do. */
        private boolean goesOver(Water from, int hours, int left) {
            Water to = from.next;
            if (to == null || hours < 1) return false;
            setBoards(from, to);
            if (hours == 1 && !mayGoOver(to, left)) return false;
            for (int rain = 0; rain < 1 << river.reaches; rain++) {
                int fallen = Integer.bitCount(rain);
                if (fallen > left) continue;
                int over = letFall(from, to, rain);
                if (hours == 1 ? over != 0 : goesOver(to, hours - 1, left - fallen)) {
                    to.rainBefore = rain;
                    return true;
                }
            }
            return false;
        }

        /** Spares the last hour's rains, where most of the search's time would go. */
        private boolean mayGoOver(Water to, int left) {
            int most = left > 0 ? 1 : 0;
            for (int i = 0; i < river.reaches && i < MOST_REACHES; i++) {
                if (to.beforeRain[i] + most > river.bank[i]) return true;
            }
            return false;
        }

        /** How many of the rains of some hours, weighed by the odds, bring a bank gone over (or a dry mill). */
        long weightOver(int hours, boolean thirst) {
            return weigh(start, hours, thirst);
        }

        private long weigh(Water from, int hours, boolean thirst) {
            Water to = from.next;
            if (to == null || hours < 1) return 0;
            setBoards(from, to);
            long all = powerOfTen(river.reaches * (hours - 1));
            long weight = 0;
            for (int rain = 0; rain < 1 << river.reaches; rain++) {
                int over = letFall(from, to, rain);
                boolean comes = (thirst ? dryMills(to) : over) != 0;
                weight += weightOf(rain) * (comes ? all : weigh(to, hours - 1, thirst));
            }
            return weight;
        }

        private long weightOf(int rain) {
            long weight = 1;
            for (int i = 0; i < river.reaches; i++) weight *= (rain >> i & 1) == 1 ? river.odds : 10 - river.odds;
            return weight;
        }

        /** The start is an hour on: the reaches that went over, as bits. */
        int goesBy(int rain) {
            Water to = start.next;
            if (to == null) return 0;
            setBoards(start, to);
            int over = letFall(start, to, rain);
            start.becomes(to);
            return over;
        }

        int boardsNext(int reach) {
            Water to = start.next;
            if (to == null || reach < 0 || reach >= MOST_REACHES) return 0;
            setBoards(start, to);
            return to.boards[reach];
        }

        /** The first half of an hour: all boards are set, and the water runs. */
        private void setBoards(Water from, Water to) {
            sight.hour = from.hour;
            sight.bell = !silent && from.level[0] == river.bank[0] ? 1 : 0;
            int runsIn = 0;
            for (int i = 0; i < river.reaches && i < MOST_REACHES; i++) {
                int boards = from.boards[i];
                Card card = cards[i];
                if (card != null && (asleep >> i & 1) == 0) {
                    sight.level = from.level[i];
                    sight.way = from.way[i];
                    boards = card.boardsBy(sight, boards);
                }
                int runsOut = Math.min(from.level[i], boards);
                to.boards[i] = boards;
                to.beforeRain[i] = from.level[i] - runsOut + runsIn;
                runsIn = runsOut;
            }
            to.hour = from.hour + 1;
        }

        /** The second half: the rain falls; the reaches that went over, as bits. */
        private int letFall(Water from, Water to, int rain) {
            int over = 0;
            for (int i = 0; i < river.reaches && i < MOST_REACHES; i++) {
                int level = to.beforeRain[i] + (rain >> i & 1);
                if (level > river.bank[i]) {
                    level = river.bank[i];
                    over |= 1 << i;
                }
                int before = from.level[i];
                to.level[i] = level;
                to.way[i] = level < before ? FELL : level > before ? ROSE : STOOD;
            }
            return over;
        }

        int dryMills(Water water) {
            int dry = 0;
            for (int i = 0; i < river.reaches && i < MOST_REACHES; i++) {
                if (water.level[i] < river.mill[i]) dry |= 1 << i;
            }
            return dry;
        }

        int sumOfLevels() {
            int levels = 0;
            for (int i = 0; i < river.reaches && i < MOST_REACHES; i++) levels += start.level[i];
            return levels;
        }
    }
}
