import java.util.LinkedHashMap;
import java.util.Map;
import java.util.Set;

/**
 * Each call in each scene, with every mix of arguments at the ends of what is taken, one beyond them, and the smallest
 * and largest ints: whether it is taken, else which refusal or finding is due, of several the first; and that what is
 * refused, found, or only foretold, changes nothing but status(). (A FAULT empties the tape: TermsTest looks at it.)
 */
public final class RefusalsTest {
    private static final int BAD = -1000001, STATE = -1000002, FULL = -1000003;
    private static final int NULL = -1000011, PLACE = -1000012, KIND = -1000013, SIZE = -1000014, STORE = -1000015;
    private static final int TAKEN = 0, LAST_FAULT = -1000200;
    private static final int MIN = Integer.MIN_VALUE, MAX = Integer.MAX_VALUE;

    private static final int[] ROWS = {MIN, -1, 0, 1, 2, 3, 4, 5, 7, 8, MAX};
    private static final int[] PLACES = {MIN, -1, 0, 1, 2, 3, 4, 28, 29, 39, 40, MAX - 11, MAX - 3, MAX - 1, MAX};
    private static final int[] LENGTHS = {MIN, -1, 0, 1, 2, 3, 4, 12, 13, 40, 41, MAX - 1, MAX};
    private static final int[] OF_FOUR = {MIN, -2, -1, 0, 1, 2, 3, 4, 5, MAX};
    private static final int[] EITHER = {MIN, -1, 0, 1, 2, MAX};
    private static final int[] SETS = {MIN, -16, -1, 0, 1, 2, 3, 4, 5, 8, 14, 15, 16, 17, 30, 1 << 30, MAX};
    private static final int[] DAYS = {MIN, -1, 0, 1, 39, 40, 41, MAX};

    /** Calls after which all but status() is as it was, even if they are taken. */
    private static final Set<String> FORETOLD_OR_READ = Set.of("fault", "member", "motion", "weight", "power", "fewest",
        "plan", "agenda", "lozenges", "later", "carried", "fits", "costs", "colds", "drawn", "kind", "as", "trace",
        "count", "status");
    /** Calls with a ROW, and as(): what they find, or that they find nothing, is what status() tells. */
    private static final Set<String> LEAVES_STATUS = Set.of("row", "set", "copy", "drop", "fits", "costs", "as");

    private interface Rule {
        int due(Scene s, int[] a);
    }

    private final Checks checks = new Checks();
    private final Face face = new Face();
    private final Map<String, Rule> rules = new LinkedHashMap<>();
    private final Map<String, int[][]> values = new LinkedHashMap<>();

    public static void main(String[] args) {
        new RefusalsTest().all();
    }

    private void all() {
        rowCalls();
        hillCalls();
        memberCalls();
        foretoldCalls();
        rowForetoldCalls();
        askedCalls();
        checks.due("every call has its rule", rules.size(), face.size());
        for (Scene scene : Scene.all()) {
            facts(scene);
            int[] untouched = Probe.of(scene.make());
            for (String name : rules.keySet()) {
                mixes(scene, name, untouched);
            }
        }
        checks.end();
    }

    /** What is told of the scene by hand is so: else the rules would be asked of something else. */
    private void facts(Scene s) {
        HoarseHill x = s.make();
        int rowsThere = 0;
        for (int length : s.lengths) {
            rowsThere += length == Scene.MISSING ? 0 : 1;
        }
        int[] whats = {0, 1, 2, 5, 6, 7};
        int[] told = {rowsThere, s.motions, s.members, s.able, s.acts, s.bytes};
        for (int k = 0; k < whats.length; k++) {
            checks.due(s.name + ": count " + whats[k], x.count(whats[k]), told[k]);
        }
        checks.due(s.name + ": status", x.status(), s.status);
    }

    private void mixes(Scene scene, String name, int[] untouched) {
        int[][] ofEach = values.get(name);
        int mixes = 1;
        for (int[] some : ofEach) {
            mixes *= some.length;
        }
        for (int mix = 0; mix < mixes; mix++) {
            int[] arguments = new int[ofEach.length];
            int rest = mix;
            for (int k = 0; k < arguments.length; k++) {
                arguments[k] = ofEach[k][rest % ofEach[k].length];
                rest /= ofEach[k].length;
            }
            one(scene, name, arguments, untouched);
        }
    }

    private void one(Scene scene, String name, int[] arguments, int[] untouched) {
        HoarseHill x = scene.make();
        int due = rules.get(name).due(scene, arguments);
        int got = face.call(x, name, arguments);
        boolean fits = due == TAKEN ? !within(got, LAST_FAULT, BAD) : got == due;
        boolean found = due <= NULL && due >= STORE;
        int status = found ? -1000010 - due : due == TAKEN && LEAVES_STATUS.contains(name) ? 0 : scene.status;
        boolean sameStatus = x.status() == status;
        boolean asBefore = FORETOLD_OR_READ.contains(name) || due != TAKEN && !name.equals("hill");
        int changed = asBefore ? Probe.difference(untouched, Probe.of(x)) : -1;
        if (fits && sameStatus && changed < 0) {
            checks.holds(name, true);
            return;
        }
        String call = scene.name + ": " + name + java.util.Arrays.toString(arguments);
        checks.holds(call + " answered " + got + ", due is " + (due == TAKEN ? "that it is taken" : due), fits);
        checks.holds(call + " leaves status " + status, sameStatus);
        checks.holds(call + " changes nothing, place " + changed + " of what is seen", changed < 0);
    }

    private static boolean within(int v, int low, int high) {
        return v >= low && v <= high;
    }

    private void call(String name, Rule rule, int[]... ofEach) {
        rules.put(name, rule);
        values.put(name, ofEach);
    }

    // Places are compared as longs here: nothing wraps around.
    private static boolean beyond(Scene s, int row, int i, int n) {
        return i < 0 || n < 0 || (long) i + (long) n > s.lengths[row];
    }

    private static boolean missing(Scene s, int row) {
        return s.lengths[row] == Scene.MISSING;
    }

    private static boolean noMember(Scene s, int m) {
        return !within(m, 0, s.members - 1);
    }

    private static boolean noSet(Scene s, int set) {
        return !within(set, 0, (1 << s.members) - 1);
    }

    private void rowCalls() {
        call("row", (s, a) -> !within(a[0], 0, 7) || !within(a[1], 0, 2) || a[2] > 40 ? BAD : a[2] < 0 ? SIZE : TAKEN,
            ROWS, new int[] {MIN, -1, 0, 1, 2, 3, MAX}, LENGTHS);
        call("set", (s, a) -> !within(a[0], 0, 7) ? BAD : missing(s, a[0]) ? NULL
            : beyond(s, a[0], a[1], 1) ? PLACE : TAKEN,
            ROWS, PLACES, new int[] {MIN, 0, MAX});
        int[] places = {MIN, -1, 0, 1, 3, 4, MAX - 1, MAX};
        call("copy", (s, a) -> !within(a[0], 0, 7) || !within(a[2], 0, 7) ? BAD
            : missing(s, a[0]) || missing(s, a[2]) ? NULL
            : s.lanes[a[0]] != s.lanes[a[2]] ? STORE
            : beyond(s, a[0], a[1], a[4]) || beyond(s, a[2], a[3], a[4]) ? PLACE : TAKEN,
            new int[] {-1, 0, 1, 2, 7, 8}, places, new int[] {-1, 0, 1, 2, 4, 5, 8}, places, places);
        call("drop", (s, a) -> !within(a[0], 0, 7) ? BAD : missing(s, a[0]) ? NULL : TAKEN, ROWS);
    }

    private void hillCalls() {
        call("feed", (s, a) -> !within(a[0], 0, 255) ? BAD : s.bytes == 100 ? FULL : TAKEN,
            new int[] {MIN, -1, 0, 'h', 255, 256, 256 + 'h', MAX});
        call("hill", (s, a) -> s.bytes == 0 ? -1000100 : s.bytes == 100 ? -1000111 : TAKEN);
        call("fault", (s, a) -> TAKEN);
        call("speak", (s, a) -> !s.hasHill ? STATE : noSet(s, a[0]) ? BAD : (a[0] & ~s.able) != 0 ? STATE : TAKEN,
            SETS);
        call("needs", (s, a) -> !within(a[0], 0, s.motions - 1) || !within(a[1], 0, 99) ? BAD : TAKEN,
            OF_FOUR, new int[] {MIN, -1, 0, 99, 100, MAX});
        call("undo", (s, a) -> s.acts == 0 ? STATE : TAKEN);
        call("motion", (s, a) -> !within(a[0], 0, s.motions - 1) ? BAD : TAKEN, OF_FOUR);
        call("weight", (s, a) -> !s.hasHill ? STATE : noSet(s, a[0]) ? BAD : TAKEN, SETS);
    }

    private void memberCalls() {
        call("lozenge", (s, a) -> noMember(s, a[0]) ? BAD : TAKEN, OF_FOUR);
        call("cold", (s, a) -> noMember(s, a[0]) || !within(a[1], 0, 20) ? BAD : TAKEN,
            OF_FOUR, new int[] {MIN, -1, 0, 20, 21, MAX});
        call("member", (s, a) -> noMember(s, a[0]) || !within(a[1], 0, 4) ? BAD : TAKEN,
            OF_FOUR, new int[] {MIN, -1, 0, 4, 5, MAX});
        call("power", (s, a) -> noMember(s, a[0]) || !within(a[1], 0, 1) ? BAD : TAKEN, OF_FOUR, EITHER);
        call("later", (s, a) -> noMember(s, a[0]) || !within(a[1], 0, 40) ? BAD : TAKEN, OF_FOUR, DAYS);
    }

    private void foretoldCalls() {
        call("fewest", (s, a) -> !s.hasHill ? STATE : !within(a[0], 0, 1) ? BAD : TAKEN, EITHER);
        call("plan", (s, a) -> !s.hasHill ? STATE : !within(a[0], 1, 4) || !within(a[1], -1, 3) ? BAD : TAKEN,
            new int[] {MIN, -1, 0, 1, 4, 5, MAX}, OF_FOUR);
        Rule pick = (s, a) -> !s.hasHill ? STATE : !within(a[0], -1, 3) ? BAD : TAKEN;
        call("agenda", pick, OF_FOUR);
        call("lozenges", pick, OF_FOUR);
        call("carried", (s, a) -> !s.hasHill ? STATE : !within(a[0], 0, 40) ? BAD : TAKEN, DAYS);
        call("colds", (s, a) -> !s.hasHill ? STATE : !within(a[0], 0, 10) || !within(a[1], 0, 1) ? BAD : TAKEN,
            new int[] {MIN, -1, 0, 5, 10, 11, MAX}, EITHER);
        call("drawn", (s, a) -> !s.hasHill ? STATE
            : !within(a[0], 0, 60) || !within(a[1], 1, 999999) || !within(a[2], 0, 1) ? BAD : TAKEN,
            new int[] {MIN, -1, 0, 60, 61, MAX}, new int[] {MIN, -1, 0, 1, 999999, 1000000, MAX}, EITHER);
        call("image", (s, a) -> !within(a[0], 0, 1) ? BAD : !s.hasHill ? STATE : TAKEN, EITHER);
        call("restore", (s, a) -> !within(a[0], 0, 1) ? BAD : !s.kept[a[0]] ? STATE : TAKEN, EITHER);
    }

    private void rowForetoldCalls() {
        call("fits", (s, a) -> noMember(s, a[0]) || !within(a[1], 0, 7) || !within(a[3], 1, 12) || !within(a[4], 0, 1)
            ? BAD : missing(s, a[1]) ? NULL : beyond(s, a[1], a[2], a[3]) ? PLACE : TAKEN,
            new int[] {-1, 0, 1, 3, 4}, ROWS, PLACES, LENGTHS, new int[] {-1, 0, 1, 2});
        call("costs", (s, a) -> !s.hasHill ? STATE : !within(a[0], 0, 7) || !within(a[2], 1, 12) ? BAD
            : missing(s, a[0]) ? NULL : beyond(s, a[0], a[1], a[2]) ? PLACE : TAKEN,
            ROWS, PLACES, LENGTHS);
    }

    private void askedCalls() {
        call("kind", (s, a) -> noMember(s, a[0]) ? BAD : TAKEN, OF_FOUR);
        call("as", (s, a) -> noMember(s, a[0]) || !within(a[1], 0, 5) ? BAD : isOne(s, a[0], a[1]) ? TAKEN : KIND,
            OF_FOUR, new int[] {MIN, -1, 0, 1, 2, 3, 4, 5, 6, MAX});
        call("ask", (s, a) -> noMember(s, a[0]) || !within(a[1], 0, 1) ? BAD : TAKEN, OF_FOUR, EITHER);
        call("trace", (s, a) -> TAKEN, new int[] {MIN, -1, 0, 5, 6, 15, 16, MAX});
        call("count", (s, a) -> !within(a[0], 0, 8) ? BAD : TAKEN, new int[] {MIN, -1, 0, 1, 2, 3, 4, 5, 6, 7, 8, 9, MAX});
        call("status", (s, a) -> TAKEN);
    }

    /** The four of the whole scene are a plain, a loud, a dry one and a priest; the two of the pair a mild and a plain. */
    private static boolean isOne(Scene s, int member, int kind) {
        String[] kinds = s.members == 4 ? new String[] {"01", "012", "013", "045"} : new String[] {"04", "01"};
        return kinds[member].indexOf((char) ('0' + kind)) >= 0;
    }
}
