import java.lang.management.ManagementFactory;

/** All calls of a run live in one room: the dear calls make nothing, and an object itself is small. */
public final class RoomTest {
    private static final Checks checks = new Checks();

    public static void main(String[] args) {
        com.sun.management.ThreadMXBean beans =
            (com.sun.management.ThreadMXBean) ManagementFactory.getThreadMXBean();
        long thread = Thread.currentThread().getId();
        used(500);
        long before = beans.getThreadAllocatedBytes(thread);
        HoarseHill x = new HoarseHill();
        long made = beans.getThreadAllocatedBytes(thread) - before;
        checks.holds("an object takes 16 KiB at most, took " + made, made <= 16384);
        readHill(x);
        before = beans.getThreadAllocatedBytes(thread);
        calls(x, 30);
        made = beans.getThreadAllocatedBytes(thread) - before;
        checks.holds("calls make next to nothing, made " + made, made <= 4096);
        checks.end();
    }

    private static void used(int rounds) {
        HoarseHill x = new HoarseHill();
        readHill(x);
        calls(x, rounds);
    }

    private static void readHill(HoarseHill x) {
        String text = "h1;m99;m98;m97;m96;p20,9;l20,9;d20,9;r20,9;";
        for (int i = 0; i < text.length(); i++) {
            x.feed(text.charAt(i));
        }
        x.hill();
    }

    private static void calls(HoarseHill x, int rounds) {
        for (int round = 0; round < rounds; round++) {
            x.row(round % 8, 2, 40);
            x.copy(round % 8, 0, round % 8, 1, 39);
            x.fits(round % 4, round % 8, 0, 12, 0);
            x.costs(round % 8, 0, 12);
            x.plan(4, 0);
            x.agenda(0);
            x.lozenges(-1);
            x.colds(5, 0);
            x.drawn(60, 7, 1);
            x.later(0, 40);
            x.speak(0);
            x.image(round % 2);
            x.undo();
            x.restore(round % 2);
            x.ask(round % 4, 0);
        }
    }
}
