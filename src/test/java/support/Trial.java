/** What tests of single calls share: an object x, texts that are read, and answers that are due. */
abstract class Trial {
    static final int NONE = -1000000, BAD = -1000001, STATE = -1000002, FULL = -1000003;
    static final int NULL = -1000011, PLACE = -1000012, KIND = -1000013, SIZE = -1000014, STORE = -1000015;
    static final int FAULTS = -1000100;
    static final int MIN = Integer.MIN_VALUE, MAX = Integer.MAX_VALUE;

    final Checks checks = new Checks();
    HoarseHill x;

    void due(String call, long got, long want) {
        checks.due(call, got, want);
    }

    void fresh() {
        x = new HoarseHill();
    }

    void fresh(String text) {
        fresh();
        checks.holds("read: " + text, read(text) >= 0);
    }

    void feed(String text) {
        for (char letter : text.toCharArray()) {
            x.feed(letter);
        }
    }

    /** Tape and reading at once. */
    int read(String text) {
        feed(text);
        return x.hill();
    }

    void dueFault(String text, int place, int number) {
        due("read " + text, read(text), FAULTS - place);
        due("fault of " + text, x.fault(), number);
        due("the tape is empty", x.count(7), 0);
    }

    void dueBreaths(int... breaths) {
        for (int m = 0; m < breaths.length; m++) {
            due("breath of " + m, x.member(m, 0), breaths[m]);
        }
    }

    /** Items cannot be read; but a motion that is always, or never, carried tells whether one is 1, or 0. */
    void dueItems(String what, int row, int... items) {
        for (int i = 0; i < items.length; i++) {
            x.needs(0, items[i] == 1 ? 0 : 99);
            due(what + ", item " + i, x.costs(row, i, 1), 1022);
        }
    }

    void setItems(int row, int... items) {
        for (int i = 0; i < items.length; i++) {
            due("set", x.set(row, i, items[i]), items[i]);
        }
    }
}
