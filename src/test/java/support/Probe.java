import java.util.Arrays;

/**
 * All that can be seen of an object but its status(), in a fixed order; the object is used up by it. Two objects of
 * which the same is seen are in the same state.
 */
final class Probe {
    private final int[] seen = new int[400];
    private int length;

    static int[] of(HoarseHill x) {
        Probe probe = new Probe();
        probe.read(x);
        probe.undoAll(x);
        probe.images(x);
        probe.tape(x);
        probe.rows(x);
        return Arrays.copyOf(probe.seen, probe.length);
    }

    /** The first place at which they differ; below 0, if nowhere. */
    static int difference(int[] a, int[] b) {
        return Arrays.mismatch(a, b);
    }

    private void see(int answer) {
        seen[length] = answer;
        length++;
    }

    private void read(HoarseHill x) {
        see(x.fault());
        for (int what = 0; what <= 8; what++) {
            see(x.count(what));
        }
        for (int i = 0; i <= 6; i++) {
            see(x.trace(i));
        }
        for (int m = 0; m < 4; m++) {
            see(x.kind(m));
            see(x.member(m, 1));
        }
        hill(x);
    }

    private void hill(HoarseHill x) {
        see(x.count(3));
        see(x.count(4));
        see(x.count(8));
        for (int m = 0; m < 4; m++) {
            see(x.member(m, 0));
            see(x.motion(m));
        }
    }

    private void undoAll(HoarseHill x) {
        for (int left = 1; left > 0; ) {
            left = x.undo();
            see(left);
            hill(x);
        }
    }

    private void images(HoarseHill x) {
        for (int k = 0; k < 2; k++) {
            see(x.restore(k));
            hill(x);
        }
    }

    private void tape(HoarseHill x) {
        see(x.hill());
        hill(x);
    }

    /** Items are seen by motions that are always, and never, carried: is it 1, is it 0. */
    private void rows(HoarseHill x) {
        for (char letter : "h1;m0;".toCharArray()) {
            x.feed(letter);
        }
        x.hill();
        items(x);
        x.needs(0, 99);
        items(x);
        for (int row = 0; row < 8; row++) {
            see(x.set(row, 0, 70000));
            see(x.drop(row));
        }
    }

    private void items(HoarseHill x) {
        for (int row = 0; row < 8; row++) {
            for (int i = 0; i < 5; i++) {
                see(x.costs(row, i, 1));
            }
        }
    }
}
