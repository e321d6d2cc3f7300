/** All that an object tells: what can be asked without changing it, and what only a change brings out. */
final class Look {
    private static final int MOST = 400;
    private final long[] row = new long[MOST];
    private int size = 0;

    private Look() {
    }

    /** What can be asked without changing it. */
    static long[] at(SluiceCards x) {
        Look look = new Look();
        look.askAll(x);
        return look.told();
    }

    /** What hangs, what stands on the tape, what the image has kept; the object isn't of use then. */
    static long[] into(SluiceCards x) {
        Look look = new Look();
        look.askAll(x);
        for (int reach = 0; reach < 3; reach++) look.put(x.hang(reach, -1));
        look.put(x.river());
        look.put(x.of(0, 1));
        look.put(x.undo());
        look.askAll(x);
        for (int reach = 0; reach < 3; reach++) look.put(x.hang(reach, -1));
        look.put(x.card(1, 3));
        look.put(x.told(x.count(1) - 1, 2));
        return look.told();
    }

    private void askAll(SluiceCards x) {
        for (int reach = 0; reach < 3; reach++) {
            for (int what = 0; what < 5; what++) put(x.of(reach, what));
            put(x.boards(reach));
            put(x.found(reach));
        }
        for (int card = 0; card < 8; card++) {
            for (int what = 0; what < 3; what++) put(x.told(card, what));
            put(x.lines(card));
        }
        for (int what = 0; what < 5; what++) {
            put(x.stream(what));
            put(x.count(what));
        }
        for (int i = 0; i < 9; i++) put(x.trace(i));
        for (int i = -1; i < 3; i++) {
            put(x.fails(i));
            put(x.fixed(i));
        }
        for (int what = 0; what < 3; what++) put(x.run(what));
        for (int what = 0; what < 2; what++) {
            put(x.drunk(what));
            put(x.same(what));
            put(x.mean(3, what, 0));
            put(x.mean(3, what, 1));
        }
        put(x.holds());
        put(x.raised());
    }

    private void put(long answer) {
        row[size++] = answer;
    }

    private long[] told() {
        return java.util.Arrays.copyOf(row, size);
    }
}
