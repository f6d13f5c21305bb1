import java.util.Arrays;

/** A state of an object and, told by hand, what is there in it: so that it is known which refusal is due. */
final class Scene {
    static final int MISSING = -1;

    final String name;
    boolean hasHill;
    int members, motions, able, acts, bytes, status;
    final boolean[] kept = new boolean[2];
    final int[] lanes = new int[8];
    final int[] lengths = new int[8];

    private Scene(String name) {
        this.name = name;
        Arrays.fill(lengths, MISSING);
    }

    static Scene[] all() {
        return new Scene[] {bare(), withoutHill(), whole(), memberless(), pair()};
    }

    HoarseHill make() {
        HoarseHill x = new HoarseHill();
        switch (name) {
            case "without a hill":
                feed(x, "h0;");
                x.hill();
                feed(x, "h3;m7;p1,1;");
                rows(x);
                break;
            case "whole":
                feed(x, "h4;m20;m9;m33;m0;p6,2;l12,3;d3,5;r9,1;");
                x.hill();
                feed(x, "h1;m1;m1;m1;m1;m1;");
                x.hill();
                feed(x, "h3;m7;p1,1;");
                rows(x);
                wholeActs(x);
                break;
            case "memberless":
                feed(x, "h1;m5;");
                x.hill();
                feed(x, "h3;m7;p1,1;");
                for (int more = 0; more < 89; more++) {
                    x.feed(' ');
                }
                break;
            case "pair":
                feed(x, "h2;m3;m4;i0,0;p1,9;");
                x.hill();
                x.speak(0);
                x.cold(1, 1);
                x.image(1);
                x.restore(1);
                rows(x);
                break;
            default:
                break;
        }
        return x;
    }

    private static void wholeActs(HoarseHill x) {
        x.speak(9);
        x.image(0);
        x.lozenge(2);
        x.cold(0, 17);
        x.needs(1, 1);
        x.image(1);
        x.cold(0, 3);
        x.ask(1, 0);
    }

    /** The last one fails and leaves a finding, so that a status that is lost is seen. */
    private static void rows(HoarseHill x) {
        x.row(0, 0, 3);
        x.row(1, 0, 4);
        x.row(2, 1, 3);
        x.row(3, 2, 40);
        x.row(4, 0, 0);
        for (int i = 0; i < 3; i++) {
            x.set(0, i, i % 2);
            x.set(1, i + 1, 1);
            x.set(2, i, 1 - i % 2);
            x.set(3, 2 * i, 1);
        }
        x.row(5, 0, -1);
    }

    private static void feed(HoarseHill x, String text) {
        for (char letter : text.toCharArray()) {
            x.feed(letter);
        }
    }

    private static Scene bare() {
        return new Scene("bare");
    }

    private static Scene withoutHill() {
        Scene s = new Scene("without a hill");
        s.bytes = 11;
        return s.withRows();
    }

    private static Scene whole() {
        Scene s = new Scene("whole");
        s.hasHill = true;
        s.members = 4;
        s.motions = 4;
        s.able = 14;
        s.acts = 5;
        s.bytes = 11;
        s.kept[0] = true;
        s.kept[1] = true;
        return s.withRows();
    }

    private static Scene memberless() {
        Scene s = new Scene("memberless");
        s.hasHill = true;
        s.motions = 1;
        s.bytes = 100;
        return s;
    }

    private static Scene pair() {
        Scene s = new Scene("pair");
        s.hasHill = true;
        s.members = 2;
        s.motions = 2;
        s.able = 1;
        s.kept[1] = true;
        return s.withRows();
    }

    private Scene withRows() {
        int[] all = {3, 4, 3, 40, 0};
        int[] allLanes = {0, 0, 1, 2, 0};
        System.arraycopy(all, 0, lengths, 0, 5);
        System.arraycopy(allLanes, 0, lanes, 0, 5);
        status = 4;
        return this;
    }
}
