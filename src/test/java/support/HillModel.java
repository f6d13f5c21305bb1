import java.math.BigInteger;
import java.util.ArrayDeque;
import java.util.ArrayList;
import java.util.Collections;
import java.util.Deque;
import java.util.List;
import java.util.function.Predicate;

/**
 * The document told a second time, by other means than the program: real subclasses for the kinds, whole copies for
 * what can be undone, and trying all orders, plans and ways one by one. Slow and wide, for tests alone.
 */
final class HillModel {
    static final int NONE = -1000000, BAD = -1000001, STATE = -1000002, FULL = -1000003;

    // ---- members: a class for each kind, so that Java itself finds the body that begins

    interface Member {
        int number();

        int breath();

        void breathe(int breath);

        int mends();

        List<Integer> trace();

        default int size() {
            trace().add(10);
            return mends();
        }

        default int mark() {
            trace().add(20);
            return number();
        }

        default int price(int cost) {
            return 0;
        }

        default boolean mendsOn(int day) {
            return true;
        }

        int says(int unable);
    }

    static class Base {
        int number, breath, mends;
        List<Integer> trace;

        public int number() {
            return number;
        }

        public int breath() {
            return breath;
        }

        public void breathe(int v) {
            breath = v;
        }

        public int mends() {
            return mends;
        }

        public List<Integer> trace() {
            return trace;
        }
    }

    static class Plain extends Base implements Member {
        @Override
        public int size() {
            trace.add(11);
            int lent = Member.super.size();
            return lent + mark();
        }

        @Override
        public int mark() {
            trace.add(21);
            return Member.super.mark() + breath;
        }

        @Override
        public int price(int cost) {
            return cost;
        }

        @Override
        public int says(int unable) {
            return 20 - breath;
        }
    }

    static class Loud extends Plain {
        @Override
        public int size() {
            trace.add(12);
            return -super.size();
        }

        @Override
        public int mark() {
            trace.add(24);
            return 2 * super.mark();
        }

        @Override
        public int price(int cost) {
            return super.price(cost) + 1;
        }

        @Override
        public int says(int unable) {
            return 2 * super.says(unable);
        }
    }

    static class Dry extends Plain {
        @Override
        public int mark() {
            trace.add(22);
            return super.mark() - 1000;
        }

        @Override
        public boolean mendsOn(int day) {
            return day % 2 == 1;
        }
    }

    static class Mild extends Base implements Member {
        @Override
        public int size() {
            trace.add(13);
            return Member.super.size() - 100;
        }

        @Override
        public int mark() {
            trace.add(23);
            int lent = Member.super.mark();
            return lent - size();
        }

        @Override
        public int says(int unable) {
            return 5;
        }
    }

    static class Priest extends Mild {
        @Override
        public int size() {
            trace.add(14);
            return super.size() * 2;
        }

        @Override
        public int says(int unable) {
            return super.says(unable) + unable;
        }
    }

    private static final Class<?>[] KINDS =
        {Member.class, Plain.class, Loud.class, Dry.class, Mild.class, Priest.class};

    private Member make(int kind, int number, int breath, int mends) {
        Base one = switch (kind) {
            case 1 -> new Plain();
            case 2 -> new Loud();
            case 3 -> new Dry();
            case 4 -> new Mild();
            default -> new Priest();
        };
        one.number = number;
        one.breath = breath;
        one.mends = mends;
        one.trace = trace;
        return (Member) one;
    }

    private static int kindOf(Member one) {
        for (int kind = 5; kind > 0; kind--) {
            if (KINDS[kind] == one.getClass()) {
                return kind;
            }
        }
        return 0;
    }

    // ---- a hill

    final class State {
        int cost, day, carried;
        List<Integer> needs = new ArrayList<>();
        List<Member> members = new ArrayList<>();

        State copied() {
            State other = new State();
            other.cost = cost;
            other.day = day;
            other.carried = carried;
            other.needs.addAll(needs);
            for (Member one : members) {
                other.members.add(make(kindOf(one), one.number(), one.breath(), one.mends()));
            }
            return other;
        }

        boolean can(int m) {
            return members.get(m).breath() >= members.get(m).price(cost);
        }

        int able() {
            int able = 0;
            for (int m = 0; m < members.size(); m++) {
                able += can(m) ? 1 << m : 0;
            }
            return able;
        }

        int says(int m) {
            int unable = 0;
            for (int other = 0; other < members.size(); other++) {
                unable += can(other) ? 0 : 1;
            }
            return members.get(m).says(unable);
        }

        int weight(int set) {
            int sum = 0;
            for (int m = 0; m < members.size(); m++) {
                sum += (set & 1 << m) != 0 ? says(m) : 0;
            }
            return sum;
        }

        int need() {
            return needs.get(day % needs.size());
        }

        int pass(int set) {
            int carries = weight(set) >= need() ? 1 : 0;
            for (int m = 0; m < members.size(); m++) {
                Member one = members.get(m);
                if ((set & 1 << m) != 0) {
                    one.breathe(one.breath() - one.price(cost));
                } else if (one.mendsOn(day)) {
                    one.breathe(Math.min(20, one.breath() + one.mends()));
                }
            }
            day++;
            carried += carries;
            return carries;
        }

        State after(int days) {
            State then = copied();
            then.carried = 0;
            for (int i = 0; i < days; i++) {
                then.pass(then.able());
            }
            return then;
        }
    }

    private State hill;
    private final Deque<State> acts = new ArrayDeque<>();
    private final State[] images = new State[2];
    private final List<Integer> trace = new ArrayList<>();
    private final long[][] rows = new long[8][];
    private final int[] lanes = new int[8];
    private final StringBuilder tape = new StringBuilder();
    private int fault, status;

    private int finding(int number) {
        status = number;
        return -1000010 - number;
    }

    private int fine(int answer) {
        status = 0;
        return answer;
    }

    private static boolean within(int v, int low, int high) {
        return v >= low && v <= high;
    }

    private boolean isMember(int m) {
        return hill != null && within(m, 0, hill.members.size() - 1);
    }

    private boolean isMotion(int m) {
        return hill != null && within(m, 0, hill.needs.size() - 1);
    }

    // ---- rows

    int row(int row, int lane, int n) {
        if (!within(row, 0, 7) || !within(lane, 0, 2) || n > 40) return BAD;
        if (n < 0) return finding(4);
        rows[row] = new long[n];
        lanes[row] = lane;
        return fine(n);
    }

    int set(int row, int i, int v) {
        if (!within(row, 0, 7)) return BAD;
        if (rows[row] == null) return finding(1);
        if (!within(i, 0, rows[row].length - 1)) return finding(2);
        int bits = 8 << lanes[row];
        rows[row][i] = (long) v << 64 - bits >> 64 - bits;
        return fine((int) rows[row][i]);
    }

    int copy(int a, int i, int b, int j, int n) {
        if (!within(a, 0, 7) || !within(b, 0, 7)) return BAD;
        if (rows[a] == null || rows[b] == null) return finding(1);
        if (lanes[a] != lanes[b]) return finding(5);
        if (i < 0 || j < 0 || n < 0 || (long) i + n > rows[a].length || (long) j + n > rows[b].length) {
            return finding(2);
        }
        long[] ahead = rows[a].clone();
        for (int k = 0; k < n; k++) {
            rows[b][j + k] = ahead[i + k];
        }
        return fine(n);
    }

    int drop(int row) {
        if (!within(row, 0, 7)) return BAD;
        if (rows[row] == null) return finding(1);
        int had = rows[row].length;
        rows[row] = null;
        return fine(had);
    }

    // ---- hills, acts

    int feed(int letter) {
        if (!within(letter, 0, 255)) return BAD;
        if (tape.length() == 100) return FULL;
        tape.append((char) letter);
        return tape.length();
    }

    /** All tokens first, then their shapes against what may stand there: S sort, n number, the rest itself. */
    int hill() {
        String text = tape.toString();
        tape.setLength(0);
        List<String> tokens = new ArrayList<>();
        List<Integer> places = new ArrayList<>();
        for (int at = 0; at < text.length(); at += tokens.get(tokens.size() - 1).length()) {
            int end = at + 1;
            while (isFigure(text.charAt(at)) && end < text.length() && isFigure(text.charAt(end))) {
                end++;
            }
            tokens.add(text.substring(at, end));
            places.add(at);
        }
        tokens.add("");
        places.add(text.length());
        State read = new State();
        List<Integer> numbers = new ArrayList<>();
        String place = "law h";
        String sort = "";
        for (int t = 0; t < tokens.size(); t++) {
            String token = tokens.get(t);
            String next = step(place, token);
            int wrong = next.isEmpty() ? 1 : wrongNumber(place, token) ? 2
                : next.equals("motion n") && read.needs.size() == 4 ? 3
                : next.equals("member n") && read.members.size() == 4 ? 3 : 0;
            if (wrong != 0) {
                fault = wrong;
                return -1000100 - places.get(t);
            }
            if (place.endsWith(" n") || place.endsWith(" o")) {
                numbers.add(Integer.parseInt(token));
            }
            if (next.equals("member n")) {
                sort = token;
            }
            if (token.equals(";")) {
                if (place.startsWith("law")) {
                    read.cost = numbers.get(0);
                } else if (place.startsWith("motion")) {
                    read.needs.add(numbers.get(0));
                } else {
                    read.members.add(make(" pldir".indexOf(sort), read.members.size(), numbers.get(0),
                        numbers.get(1)));
                }
                numbers.clear();
            }
            place = next;
        }
        hill = read;
        acts.clear();
        return hill.members.size();
    }

    private static boolean isFigure(char c) {
        return "0123456789".indexOf(c) >= 0;
    }

    private static String step(String place, String token) {
        boolean number = token.matches("[0-9]{1,2}");
        boolean sort = token.matches("[pldir]");
        return switch (place) {
            case "law h" -> token.equals("h") ? "law n" : "";
            case "law n" -> number ? "law ;" : "";
            case "law ;" -> token.equals(";") ? "motion m" : "";
            case "motion m" -> token.equals("m") ? "motion n" : "";
            case "motion n" -> number ? "motion ;" : "";
            case "motion ;" -> token.equals(";") ? "either" : "";
            case "either" -> token.equals("m") ? "motion n" : sort ? "member n" : token.isEmpty() ? "end" : "";
            case "member n" -> number ? "member ," : "";
            case "member ," -> token.equals(",") ? "member o" : "";
            case "member o" -> number ? "member ;" : "";
            case "member ;" -> token.equals(";") ? "member" : "";
            case "member" -> sort ? "member n" : token.isEmpty() ? "end" : "";
            default -> "";
        };
    }

    private static boolean wrongNumber(String place, String token) {
        return switch (place) {
            case "law n" -> !within(Integer.parseInt(token), 1, 9);
            case "member n" -> !within(Integer.parseInt(token), 0, 20);
            case "member o" -> !within(Integer.parseInt(token), 0, 9);
            default -> false;
        };
    }

    int fault() {
        return fault;
    }

    private void act() {
        acts.push(hill.copied());
        if (acts.size() > 24) {
            acts.removeLast();
        }
    }

    private boolean isSet(int set) {
        return within(set, 0, (1 << hill.members.size()) - 1);
    }

    int speak(int set) {
        if (hill == null) return STATE;
        if (!isSet(set)) return BAD;
        for (int m = 0; m < 4; m++) {
            if ((set & 1 << m) != 0 && !hill.can(m)) return STATE;
        }
        if (hill.day == 999) return FULL;
        act();
        return hill.pass(set);
    }

    int lozenge(int m) {
        if (!isMember(m)) return BAD;
        act();
        Member one = hill.members.get(m);
        one.breathe(Math.min(20, one.breath() + 5));
        return one.breath();
    }

    int cold(int m, int v) {
        if (!isMember(m) || !within(v, 0, 20)) return BAD;
        act();
        int was = hill.members.get(m).breath();
        hill.members.get(m).breathe(v);
        return was;
    }

    int needs(int m, int v) {
        if (!isMotion(m) || !within(v, 0, 99)) return BAD;
        act();
        return hill.needs.set(m, v);
    }

    int undo() {
        if (acts.isEmpty()) return STATE;
        hill = acts.pop();
        return acts.size();
    }

    int member(int m, int what) {
        if (!isMember(m) || !within(what, 0, 4)) return BAD;
        Member one = hill.members.get(m);
        return new int[] {one.breath(), one.mends(), hill.can(m) ? 1 : 0, hill.says(m), one.price(hill.cost)}[what];
    }

    int motion(int m) {
        return isMotion(m) ? hill.needs.get(m) : BAD;
    }

    int weight(int set) {
        if (hill == null) return STATE;
        return isSet(set) ? hill.weight(set) : BAD;
    }

    // ---- foretold

    private static int fraction(long above, long below, int what) {
        long shared = BigInteger.valueOf(above).gcd(BigInteger.valueOf(below)).longValue();
        return (int) ((what == 0 ? above : below) / shared);
    }

    private static void orders(List<Integer> rest, List<Integer> order, List<List<Integer>> all) {
        if (rest.isEmpty()) {
            all.add(new ArrayList<>(order));
        }
        for (Integer one : rest) {
            List<Integer> others = new ArrayList<>(rest);
            others.remove(one);
            order.add(one);
            orders(others, order, all);
            order.remove(order.size() - 1);
        }
    }

    private static List<List<Integer>> ordersOf(List<Integer> those) {
        List<List<Integer>> all = new ArrayList<>();
        orders(those, new ArrayList<>(), all);
        return all;
    }

    int power(int m, int what) {
        if (!isMember(m) || !within(what, 0, 1)) return BAD;
        List<Integer> able = new ArrayList<>();
        for (int other = 0; other < hill.members.size(); other++) {
            if (hill.can(other)) {
                able.add(other);
            }
        }
        List<List<Integer>> all = ordersOf(able);
        int turned = 0;
        for (List<Integer> order : all) {
            int sum = 0;
            for (int speaker : order) {
                int with = sum + hill.says(speaker);
                if (speaker == m && sum < hill.need() && with >= hill.need()) {
                    turned++;
                }
                sum = with;
            }
        }
        return fraction(turned, all.size(), what);
    }

    int fewest(int what) {
        if (hill == null) return STATE;
        if (!within(what, 0, 1)) return BAD;
        for (int size = 0; size <= 4; size++) {
            for (int set = 0; set < 16; set++) {
                if (Integer.bitCount(set) == size && (set | hill.able()) == hill.able()
                        && hill.weight(set) >= hill.need()) {
                    return what == 0 ? size : set;
                }
            }
        }
        return NONE;
    }

    int plan(int n, int k) {
        if (hill == null) return STATE;
        if (!within(n, 1, 4) || !within(k, -1, 3)) return BAD;
        int most = -1;
        int best = 0;
        for (int code = 0; code < 1 << 4 * n; code++) {
            int carried = planCarries(code, n);
            if (carried > most) {
                most = carried;
                best = code;
            }
        }
        return k == -1 ? most : k >= n ? NONE : best >> 4 * (n - 1 - k) & 15;
    }

    private int planCarries(int code, int n) {
        State then = hill.copied();
        int carried = 0;
        for (int day = 0; day < n; day++) {
            int set = code >> 4 * (n - 1 - day) & 15;
            if ((set & ~then.able()) != 0) {
                return -1;
            }
            carried += then.pass(set);
        }
        return carried;
    }

    int agenda(int k) {
        if (hill == null) return STATE;
        if (!within(k, -1, 3)) return BAD;
        List<Integer> numbers = new ArrayList<>();
        for (int m = 0; m < hill.needs.size(); m++) {
            numbers.add(m);
        }
        int most = -1;
        List<Integer> best = numbers;
        for (List<Integer> order : ordersOf(numbers)) {
            State then = hill.copied();
            int carried = 0;
            for (int motion : order) {
                carried += then.weight(then.able()) >= hill.needs.get(motion) ? 1 : 0;
                then.pass(then.able());
            }
            if (carried > most) {
                most = carried;
                best = order;
            }
        }
        return k == -1 ? most : k < best.size() ? best.get(k) : NONE;
    }

    int lozenges(int k) {
        if (hill == null) return STATE;
        if (!within(k, -1, 3)) return BAD;
        int size = hill.members.size();
        for (int sum = 0; sum <= 3 * size; sum++) {
            List<Integer> way = firstWay(new ArrayList<>(), sum, size);
            if (way != null) {
                return k == -1 ? sum : k < size ? way.get(k) : NONE;
            }
        }
        return NONE;
    }

    private List<Integer> firstWay(List<Integer> given, int left, int size) {
        if (given.size() == size) {
            return left == 0 && carriesWith(given) ? given : null;
        }
        for (int here = 0; here <= Math.min(3, left); here++) {
            List<Integer> more = new ArrayList<>(given);
            more.add(here);
            List<Integer> way = firstWay(more, left - here, size);
            if (way != null) {
                return way;
            }
        }
        return null;
    }

    private boolean carriesWith(List<Integer> given) {
        State then = hill.copied();
        for (int m = 0; m < given.size(); m++) {
            for (int i = 0; i < given.get(m); i++) {
                then.members.get(m).breathe(Math.min(20, then.members.get(m).breath() + 5));
            }
        }
        return then.weight(then.able()) >= then.need();
    }

    int later(int m, int d) {
        if (!isMember(m) || !within(d, 0, 40)) return BAD;
        return hill.after(d).members.get(m).breath();
    }

    int carried(int d) {
        if (hill == null) return STATE;
        return within(d, 0, 40) ? hill.after(d).carried : BAD;
    }

    private boolean tells(State then, int row, int i, int n) {
        for (int k = 0; k < n; k++) {
            if (then.pass(then.able()) != rows[row][i + k]) {
                return false;
            }
        }
        return true;
    }

    private int fitting(int low, int high, Predicate<Integer> is) {
        int bits = 0;
        for (int v = low; v <= high; v++) {
            bits |= is.test(v) ? 1 << v : 0;
        }
        return bits;
    }

    private State with(int m, int kind, int breath) {
        State then = hill.copied();
        then.members.set(m, make(kind, m, breath, then.members.get(m).mends()));
        return then;
    }

    int fits(int m, int row, int i, int n, int what) {
        if (!isMember(m) || !within(row, 0, 7) || !within(n, 1, 12) || !within(what, 0, 1)) return BAD;
        if (rows[row] == null) return finding(1);
        if (i < 0 || (long) i + n > rows[row].length) return finding(2);
        Member one = hill.members.get(m);
        return fine(what == 0 ? fitting(0, 20, b -> tells(with(m, kindOf(one), b), row, i, n))
            : fitting(1, 5, kind -> tells(with(m, kind, one.breath()), row, i, n)));
    }

    int costs(int row, int i, int n) {
        if (hill == null) return STATE;
        if (!within(row, 0, 7) || !within(n, 1, 12)) return BAD;
        if (rows[row] == null) return finding(1);
        if (i < 0 || (long) i + n > rows[row].length) return finding(2);
        return fine(fitting(1, 9, cost -> {
            State then = hill.copied();
            then.cost = cost;
            return tells(then, row, i, n);
        }));
    }

    int colds(int c, int what) {
        if (hill == null) return STATE;
        if (!within(c, 0, 10) || !within(what, 0, 1)) return BAD;
        int size = hill.members.size();
        int carried = 0;
        int all = (int) Math.pow(10, size);
        // Each of ten equal cases for each member, one by one: he has a cold in the first c of them.
        for (int cases = 0; cases < all; cases++) {
            State then = hill.copied();
            int rest = cases;
            for (Member one : then.members) {
                if (rest % 10 < c) {
                    one.breathe(Math.max(0, one.breath() - 5));
                }
                rest /= 10;
            }
            carried += then.weight(then.able()) >= then.need() ? 1 : 0;
        }
        return fraction(carried, all, what);
    }

    int drawn(int n, int seed, int what) {
        if (hill == null) return STATE;
        if (!within(n, 0, 60) || !within(seed, 1, 999999) || !within(what, 0, 1)) return BAD;
        BigInteger x = BigInteger.valueOf(seed);
        State then = hill.copied();
        int carried = 0;
        for (int day = 0; day < n; day++) {
            x = x.multiply(BigInteger.valueOf(16807)).mod(BigInteger.valueOf(2147483647));
            int set = 0;
            for (int m = 0; m < then.members.size(); m++) {
                set += x.testBit(m) && then.can(m) ? 1 << m : 0;
            }
            carried += then.pass(set);
        }
        return what == 0 ? carried : then.members.stream().mapToInt(Member::breath).sum();
    }

    int image(int k) {
        if (!within(k, 0, 1)) return BAD;
        if (hill == null) return STATE;
        images[k] = hill.copied();
        return 1;
    }

    int restore(int k) {
        if (!within(k, 0, 1)) return BAD;
        if (images[k] == null) return STATE;
        hill = images[k].copied();
        acts.clear();
        return 1;
    }

    // ---- asked

    int kind(int m) {
        return isMember(m) ? kindOf(hill.members.get(m)) : BAD;
    }

    int as(int m, int kind) {
        if (!isMember(m) || !within(kind, 0, 5)) return BAD;
        return KINDS[kind].isInstance(hill.members.get(m)) ? fine(m) : finding(3);
    }

    int ask(int m, int what) {
        if (!isMember(m) || !within(what, 0, 1)) return BAD;
        trace.clear();
        return what == 0 ? hill.members.get(m).size() : hill.members.get(m).mark();
    }

    int trace(int i) {
        return within(i, 0, Math.min(16, trace.size()) - 1) ? trace.get(i) : NONE;
    }

    int count(int what) {
        if (!within(what, 0, 8)) return BAD;
        int there = Collections.frequency(java.util.Arrays.asList(rows), null);
        State h = hill == null ? new State() : hill;
        return new int[] {8 - there, h.needs.size(), h.members.size(), h.day, h.cost, h.able(), acts.size(),
            tape.length(), h.carried}[what];
    }

    int status() {
        return status;
    }
}
