/**
 * The party of the hill, hoarse on principle: members, motions, days on which some speak, and all that can be
 * foretold of them. Refusals are answers; no call throws.
 */
public final class HoarseHill {
    public static final int NONE = -1000000, BAD = -1000001, STATE = -1000002, FULL = -1000003;

    private static final int FINDINGS = -1000010;
    private static final int NULL = 1, PLACE = 2, KIND = 3, SIZE = 4, STORE = 5;
    private static final int FAULTS = -1000100;

    private static final int ROWS_MAX = 8, ITEMS_MAX = 40;
    private static final int BYTES = 0, SHORTS = 1, INTS = 2;
    private static final int TAPE_MAX = 100, LETTER_MAX = 255;
    private static final int MOTIONS_MAX = 4, MEMBERS_MAX = 4, SETS_MAX = 16;
    private static final int BREATH_MAX = 20, MENDS_MAX = 9, COST_MAX = 9, NEEDS_MAX = 99;
    private static final int LOZENGE = 5, CHILL = 5, LAST_DAY = 999;
    private static final int ACTS_MAX = 24, TRACE_MAX = 16;
    private static final int PLAN_MAX = 4, LATER_MAX = 40, TOLD_MAX = 12, SESSIONS_MAX = 60;
    private static final int SEED_MAX = 999999, COLD_MAX = 10;

    private static final int ANYONE = 0, PLAIN = 1, LOUD = 2, DRY = 3, MILD = 4, PRIEST = 5;

    private final Rows rows;
    private final Tape tape;
    private final Hill now;
    private final Hill draft;
    private final Hill firstImage;
    private final Hill secondImage;
    private final Acts acts;
    private final Foretelling foretelling;
    private final Planning planning;
    private final Matching matching;
    private final Asks asks;
    private int latestFault;
    private int latestFinding;

    public HoarseHill() {
        Rows allRows = new Rows();
        Hill standing = new Hill();
        // One spare hill serves every foretelling: no call leaves anything in it that a later one needs.
        Hill told = new Hill();
        rows = allRows;
        tape = new Tape();
        now = standing;
        draft = new Hill();
        firstImage = new Hill();
        secondImage = new Hill();
        acts = new Acts();
        foretelling = new Foretelling(standing, told);
        planning = new Planning(standing, told);
        matching = new Matching(standing, told, allRows);
        asks = new Asks(standing);
    }

    // ---- rows

    public int row(int row, int lane, int n) {
        if (!rows.isRow(row) || lane < BYTES || lane > INTS || n > ITEMS_MAX) {
            return BAD;
        }
        if (n < 0) {
            return found(SIZE);
        }
        rows.make(row, lane, n);
        return foundNothing(n);
    }

    public int set(int row, int i, int v) {
        if (!rows.isRow(row)) {
            return BAD;
        }
        if (rows.isMissing(row)) {
            return found(NULL);
        }
        if (!rows.hasPlaces(row, i, 1)) {
            return found(PLACE);
        }
        return foundNothing(rows.put(row, i, v));
    }

    public int copy(int a, int i, int b, int j, int n) {
        if (!rows.isRow(a) || !rows.isRow(b)) {
            return BAD;
        }
        if (rows.isMissing(a) || rows.isMissing(b)) {
            return found(NULL);
        }
        if (!rows.sameLane(a, b)) {
            return found(STORE);
        }
        if (!rows.hasPlaces(a, i, n) || !rows.hasPlaces(b, j, n)) {
            return found(PLACE);
        }
        rows.move(a, i, b, j, n);
        return foundNothing(n);
    }

    public int drop(int row) {
        if (!rows.isRow(row)) {
            return BAD;
        }
        if (rows.isMissing(row)) {
            return found(NULL);
        }
        return foundNothing(rows.lose(row));
    }

    // ---- hills, acts

    public int feed(int letter) {
        if (letter < 0 || letter > LETTER_MAX) {
            return BAD;
        }
        if (tape.isFull()) {
            return FULL;
        }
        return tape.append(letter);
    }

    public int hill() {
        tape.readInto(draft);
        tape.empty();
        if (tape.fault != 0) {
            latestFault = tape.fault;
            return FAULTS - tape.position;
        }
        now.become(draft);
        acts.forget();
        return now.members;
    }

    public int fault() {
        return latestFault;
    }

    public int speak(int members) {
        if (!now.stands) {
            return STATE;
        }
        if (!now.isSet(members)) {
            return BAD;
        }
        int able = now.ableSet();
        if ((members & ~able) != 0) {
            return STATE;
        }
        if (now.day >= LAST_DAY) {
            return FULL;
        }
        acts.keep(now);
        return now.passDay(members, able);
    }

    public int lozenge(int member) {
        if (!now.hasMember(member)) {
            return BAD;
        }
        acts.keep(now);
        now.breaths[member] = breathAfterLozenges(now.breaths[member], 1);
        return now.breaths[member];
    }

    public int cold(int member, int v) {
        if (!now.hasMember(member) || v < 0 || v > BREATH_MAX) {
            return BAD;
        }
        acts.keep(now);
        int before = now.breaths[member];
        now.breaths[member] = v;
        return before;
    }

    public int needs(int motion, int v) {
        if (!now.hasMotion(motion) || v < 0 || v > NEEDS_MAX) {
            return BAD;
        }
        acts.keep(now);
        int before = now.needs[motion];
        now.needs[motion] = v;
        return before;
    }

    public int undo() {
        if (acts.kept == 0) {
            return STATE;
        }
        acts.giveBack(now);
        return acts.kept;
    }

    public int member(int member, int what) {
        if (!now.hasMember(member)) {
            return BAD;
        }
        switch (what) {
            case 0:
                return now.breaths[member];
            case 1:
                return now.mends[member];
            case 2:
                return now.ableSet() >> member & 1;
            case 3:
                return now.weighs(member, now.ableSet());
            case 4:
                return now.costOf(member);
            default:
                return BAD;
        }
    }

    public int motion(int motion) {
        return now.hasMotion(motion) ? now.needs[motion] : BAD;
    }

    public int weight(int members) {
        if (!now.stands) {
            return STATE;
        }
        return now.isSet(members) ? now.weighsSet(members, now.ableSet()) : BAD;
    }

    // ---- foretold

    public int power(int member, int what) {
        if (!now.hasMember(member) || !isEither(what)) {
            return BAD;
        }
        return foretelling.powerOf(member, what);
    }

    public int fewest(int what) {
        if (!now.stands) {
            return STATE;
        }
        return isEither(what) ? foretelling.fewestSpeakers(what) : BAD;
    }

    public int plan(int n, int k) {
        if (!now.stands) {
            return STATE;
        }
        if (n < 1 || n > PLAN_MAX || !isPick(k)) {
            return BAD;
        }
        return planning.bestDays(n, k);
    }

    public int agenda(int k) {
        if (!now.stands) {
            return STATE;
        }
        return isPick(k) ? foretelling.bestAgenda(k) : BAD;
    }

    public int lozenges(int k) {
        if (!now.stands) {
            return STATE;
        }
        return isPick(k) ? foretelling.fewestLozenges(k) : BAD;
    }

    public int later(int member, int d) {
        if (!now.hasMember(member) || d < 0 || d > LATER_MAX) {
            return BAD;
        }
        return foretelling.breathLater(member, d);
    }

    public int carried(int d) {
        if (!now.stands) {
            return STATE;
        }
        return d >= 0 && d <= LATER_MAX ? foretelling.carriedLater(d) : BAD;
    }

    public int fits(int member, int row, int i, int n, int what) {
        if (!now.hasMember(member) || !rows.isRow(row) || n < 1 || n > TOLD_MAX || !isEither(what)) {
            return BAD;
        }
        if (rows.isMissing(row)) {
            return found(NULL);
        }
        if (!rows.hasPlaces(row, i, n)) {
            return found(PLACE);
        }
        return foundNothing(what == 0 ? matching.breathsOf(member, row, i, n) : matching.sortsOf(member, row, i, n));
    }

    public int costs(int row, int i, int n) {
        if (!now.stands) {
            return STATE;
        }
        if (!rows.isRow(row) || n < 1 || n > TOLD_MAX) {
            return BAD;
        }
        if (rows.isMissing(row)) {
            return found(NULL);
        }
        if (!rows.hasPlaces(row, i, n)) {
            return found(PLACE);
        }
        return foundNothing(matching.costsOf(row, i, n));
    }

    public int colds(int c, int what) {
        if (!now.stands) {
            return STATE;
        }
        return c >= 0 && c <= COLD_MAX && isEither(what) ? foretelling.carriedInColds(c, what) : BAD;
    }

    public int drawn(int n, int seed, int what) {
        if (!now.stands) {
            return STATE;
        }
        if (n < 0 || n > SESSIONS_MAX || seed < 1 || seed > SEED_MAX || !isEither(what)) {
            return BAD;
        }
        return foretelling.sessions(n, seed, what);
    }

    public int image(int k) {
        if (!isEither(k)) {
            return BAD;
        }
        if (!now.stands) {
            return STATE;
        }
        imageOf(k).become(now);
        return 1;
    }

    public int restore(int k) {
        if (!isEither(k)) {
            return BAD;
        }
        if (!imageOf(k).stands) {
            return STATE;
        }
        now.become(imageOf(k));
        acts.forget();
        return 1;
    }

    // ---- asked

    public int kind(int member) {
        return now.hasMember(member) ? now.kinds[member] : BAD;
    }

    public int as(int member, int kind) {
        if (!now.hasMember(member) || kind < ANYONE || kind > PRIEST) {
            return BAD;
        }
        return isOfKind(now.kinds[member], kind) ? foundNothing(member) : found(KIND);
    }

    public int ask(int member, int what) {
        if (!now.hasMember(member) || !isEither(what)) {
            return BAD;
        }
        return what == 0 ? asks.sizeOf(member) : asks.markOf(member);
    }

    public int trace(int i) {
        return asks.traceAt(i);
    }

    public int count(int what) {
        switch (what) {
            case 0:
                return rows.present();
            case 1:
                return now.motions;
            case 2:
                return now.members;
            case 3:
                return now.day;
            case 4:
                return now.cost;
            case 5:
                return now.ableSet();
            case 6:
                return acts.kept;
            case 7:
                return tape.length;
            case 8:
                return now.carriedInAll;
            default:
                return BAD;
        }
    }

    public int status() {
        return latestFinding;
    }

    // ---- what several calls share

    private int found(int finding) {
        latestFinding = finding;
        return FINDINGS - finding;
    }

    private int foundNothing(int answer) {
        latestFinding = 0;
        return answer;
    }

    private Hill imageOf(int k) {
        return k == 0 ? firstImage : secondImage;
    }

    private static boolean isEither(int what) {
        return what == 0 || what == 1;
    }

    /** Plans, agendas and lozenges are asked for their sum (-1) or for one of at most four places. */
    private static boolean isPick(int k) {
        return k >= -1 && k <= 3;
    }

    private static boolean isOfKind(int own, int asked) {
        return asked == ANYONE || asked == own || asked == PLAIN && (own == LOUD || own == DRY)
                || asked == MILD && own == PRIEST;
    }

    private static int breathAfterLozenges(int breath, int given) {
        return Math.min(BREATH_MAX, breath + LOZENGE * given);
    }

    /** The upper (0) or the lower (1) number of a fraction in lowest terms. */
    private static int lowest(int above, int below, int what) {
        int shared = greatestShared(above, below);
        if (shared == 0) {
            return what;
        }
        return (what == 0 ? above : below) / shared;
    }

    private static int greatestShared(int a, int b) {
        int large = a;
        int small = b;
        // Each two steps halve what is left, so that ints never need as many as this.
        for (int step = 0; step < 64 && small != 0; step++) {
            int rest = large % small;
            large = small;
            small = rest;
        }
        return large;
    }

    /** All ROWS, in one array that is made once: calls of row() then make nothing. */
    private static final class Rows {
        private static final int MISSING = -1;

        final int[] lanes = new int[ROWS_MAX];
        final int[] lengths = new int[ROWS_MAX];
        final int[] items = new int[ROWS_MAX * ITEMS_MAX];

        Rows() {
            for (int row = 0; row < ROWS_MAX; row++) {
                lengths[row] = MISSING;
            }
        }

        boolean isRow(int row) {
            return row >= 0 && row < ROWS_MAX;
        }

        boolean isMissing(int row) {
            return lengths[row] == MISSING;
        }

        boolean sameLane(int a, int b) {
            return lanes[a] == lanes[b];
        }

        /** Compared without a sum of i and n, which could wrap around. */
        boolean hasPlaces(int row, int i, int n) {
            int length = lengths[row];
            return i >= 0 && n >= 0 && i <= length && n <= length - i;
        }

        int present() {
            int there = 0;
            for (int row = 0; row < ROWS_MAX; row++) {
                if (lengths[row] != MISSING) {
                    there++;
                }
            }
            return there;
        }

        void make(int row, int lane, int n) {
            lanes[row] = lane;
            lengths[row] = n;
            for (int i = 0; i < ITEMS_MAX; i++) {
                items[row * ITEMS_MAX + i] = 0;
            }
        }

        int item(int row, int i) {
            return items[row * ITEMS_MAX + i];
        }

        int put(int row, int i, int v) {
            int kept = v;
            if (lanes[row] == BYTES) {
                kept = (byte) v;
            } else if (lanes[row] == SHORTS) {
                kept = (short) v;
            }
            items[row * ITEMS_MAX + i] = kept;
            return kept;
        }

        void move(int a, int i, int b, int j, int n) {
            System.arraycopy(items, a * ITEMS_MAX + i, items, b * ITEMS_MAX + j, n);
        }

        int lose(int row) {
            int had = lengths[row];
            lengths[row] = MISSING;
            return had;
        }
    }

    /** A hill at one moment: the one that stands, one being read, an image, or one that is only foretold. */
    private static final class Hill {
        boolean stands;
        int cost;
        int motions;
        int members;
        int day;
        int carriedInAll;
        final int[] needs = new int[MOTIONS_MAX];
        final int[] kinds = new int[MEMBERS_MAX];
        final int[] breaths = new int[MEMBERS_MAX];
        final int[] mends = new int[MEMBERS_MAX];

        void clear() {
            stands = false;
            cost = 0;
            motions = 0;
            members = 0;
            day = 0;
            carriedInAll = 0;
        }

        void become(Hill other) {
            stands = other.stands;
            cost = other.cost;
            motions = other.motions;
            members = other.members;
            day = other.day;
            carriedInAll = other.carriedInAll;
            for (int motion = 0; motion < MOTIONS_MAX; motion++) {
                needs[motion] = other.needs[motion];
            }
            for (int member = 0; member < MEMBERS_MAX; member++) {
                kinds[member] = other.kinds[member];
                breaths[member] = other.breaths[member];
                mends[member] = other.mends[member];
            }
        }

        boolean hasMember(int member) {
            return member >= 0 && member < members;
        }

        boolean hasMotion(int motion) {
            return motion >= 0 && motion < motions;
        }

        boolean isSet(int set) {
            return set >= 0 && set < 1 << members;
        }

        void addMotion(int need) {
            if (motions < MOTIONS_MAX) {
                needs[motions] = need;
                motions++;
            }
        }

        void addMember(int sort, int breath, int mend) {
            if (members < MEMBERS_MAX) {
                kinds[members] = sort;
                breaths[members] = breath;
                mends[members] = mend;
                members++;
            }
        }

        int costOf(int member) {
            switch (kinds[member]) {
                case PLAIN:
                case DRY:
                    return cost;
                case LOUD:
                    return cost + 1;
                default:
                    return 0;
            }
        }

        int ableSet() {
            int able = 0;
            for (int member = 0; member < members; member++) {
                if (breaths[member] >= costOf(member)) {
                    able |= 1 << member;
                }
            }
            return able;
        }

        /** Who is able now is told, so that it need not be found anew for each member, or set, that is weighed. */
        int weighs(int member, int able) {
            switch (kinds[member]) {
                case PLAIN:
                case DRY:
                    return BREATH_MAX - breaths[member];
                case LOUD:
                    return 2 * (BREATH_MAX - breaths[member]);
                case MILD:
                    return 5;
                default:
                    return 5 + members - Integer.bitCount(able);
            }
        }

        int weighsSet(int set, int able) {
            int sum = 0;
            for (int member = 0; member < members; member++) {
                if ((set >> member & 1) != 0) {
                    sum += weighs(member, able);
                }
            }
            return sum;
        }

        int needToday() {
            return motions > 0 ? needs[day % motions] : 0;
        }

        boolean isCarriedBy(int set, int able) {
            return weighsSet(set, able) >= needToday();
        }

        boolean isCarriedByAll() {
            int able = ableSet();
            return isCarriedBy(able, able);
        }

        /** The day goes by with those speaking: 1, if its motion is carried. */
        int passDay(int set, int able) {
            int carries = isCarriedBy(set, able) ? 1 : 0;
            for (int member = 0; member < members; member++) {
                if ((set >> member & 1) != 0) {
                    breaths[member] -= costOf(member);
                } else if (kinds[member] != DRY || day % 2 == 1) {
                    breaths[member] = Math.min(BREATH_MAX, breaths[member] + mends[member]);
                }
            }
            carriedInAll += carries;
            day++;
            return carries;
        }

        /** So many days go by on which all speak who can: how many motions are carried in them. */
        int passDays(int days) {
            int carriedThen = 0;
            for (int passed = 0; passed < days; passed++) {
                int able = ableSet();
                carriedThen += passDay(able, able);
            }
            return carriedThen;
        }
    }

    /** The tape, and the reading of it. A fault stops the reading; position then is its place. */
    private static final class Tape {
        private static final int CANNOT_STAND = 1, NOT_AS_TOLD = 2, NO_ROOM = 3;
        private static final int END = -1;

        final int[] letters = new int[TAPE_MAX];
        int length;
        int position;
        int fault;

        boolean isFull() {
            return length >= TAPE_MAX;
        }

        int append(int letter) {
            if (length < TAPE_MAX) {
                letters[length] = letter;
                length++;
            }
            return length;
        }

        void empty() {
            length = 0;
        }

        void readInto(Hill read) {
            position = 0;
            fault = 0;
            read.clear();
            readLaw(read);
            readMotions(read);
            readMembers(read);
            read.stands = fault == 0;
        }

        private void readLaw(Hill read) {
            take('h');
            read.cost = takeNumber(1, COST_MAX);
            take(';');
        }

        private void readMotions(Hill read) {
            readMotion(read);
            // One round more than there is room for, so that the motion too many is found.
            for (int more = 0; more < MOTIONS_MAX && fault == 0 && letterAt(position) == 'm'; more++) {
                readMotion(read);
            }
        }

        private void readMotion(Hill read) {
            if (fault == 0 && letterAt(position) == 'm' && read.motions == MOTIONS_MAX) {
                fault = NO_ROOM;
            }
            take('m');
            int need = takeNumber(0, NEEDS_MAX);
            take(';');
            if (fault == 0) {
                read.addMotion(need);
            }
        }

        private void readMembers(Hill read) {
            for (int more = 0; more <= MEMBERS_MAX && fault == 0 && position < length; more++) {
                readMember(read);
            }
        }

        private void readMember(Hill read) {
            int sort = sortOf(letterAt(position));
            if (sort == ANYONE) {
                fault = CANNOT_STAND;
            } else if (read.members == MEMBERS_MAX) {
                fault = NO_ROOM;
            } else {
                position++;
            }
            int breath = takeNumber(0, BREATH_MAX);
            take(',');
            int mend = takeNumber(0, MENDS_MAX);
            take(';');
            if (fault == 0) {
                read.addMember(sort, breath, mend);
            }
        }

        private int letterAt(int place) {
            return place >= 0 && place < length ? letters[place] : END;
        }

        private void take(int letter) {
            if (fault != 0) {
                return;
            }
            if (letterAt(position) != letter) {
                fault = CANNOT_STAND;
                return;
            }
            position++;
        }

        private int takeNumber(int low, int high) {
            if (fault != 0) {
                return 0;
            }
            int figures = figuresAt(position);
            if (figures < 1 || figures > 2) {
                fault = CANNOT_STAND;
                return 0;
            }
            int number = 0;
            for (int i = 0; i < figures; i++) {
                number = number * 10 + letterAt(position + i) - '0';
            }
            if (number < low || number > high) {
                fault = NOT_AS_TOLD;
                return 0;
            }
            position += figures;
            return number;
        }

        private int figuresAt(int place) {
            int figures = 0;
            for (int at = place; at < length && isFigure(letterAt(at)); at++) {
                figures++;
            }
            return figures;
        }

        private static boolean isFigure(int letter) {
            return letter >= '0' && letter <= '9';
        }

        private static int sortOf(int letter) {
            switch (letter) {
                case 'p':
                    return PLAIN;
                case 'l':
                    return LOUD;
                case 'd':
                    return DRY;
                case 'i':
                    return MILD;
                case 'r':
                    return PRIEST;
                default:
                    return ANYONE;
            }
        }
    }

    /** The latest acts: of each, all that acts can change, as it was ahead of it; the oldest is written over. */
    private static final class Acts {
        private static final int DAY = 0, CARRIED = 1, NEEDS = 2, BREATHS = NEEDS + MOTIONS_MAX;
        private static final int WIDTH = BREATHS + MEMBERS_MAX;

        final int[] before = new int[ACTS_MAX * WIDTH];
        int kept;
        int next;

        void forget() {
            kept = 0;
            next = 0;
        }

        void keep(Hill hill) {
            int at = next * WIDTH;
            before[at + DAY] = hill.day;
            before[at + CARRIED] = hill.carriedInAll;
            for (int motion = 0; motion < MOTIONS_MAX; motion++) {
                before[at + NEEDS + motion] = hill.needs[motion];
            }
            for (int member = 0; member < MEMBERS_MAX; member++) {
                before[at + BREATHS + member] = hill.breaths[member];
            }
            next = (next + 1) % ACTS_MAX;
            kept = Math.min(ACTS_MAX, kept + 1);
        }

        void giveBack(Hill hill) {
            if (kept == 0) {
                return;
            }
            kept--;
            next = (next + ACTS_MAX - 1) % ACTS_MAX;
            int at = next * WIDTH;
            hill.day = before[at + DAY];
            hill.carriedInAll = before[at + CARRIED];
            for (int motion = 0; motion < MOTIONS_MAX; motion++) {
                hill.needs[motion] = before[at + NEEDS + motion];
            }
            for (int member = 0; member < MEMBERS_MAX; member++) {
                hill.breaths[member] = before[at + BREATHS + member];
            }
        }
    }

    /** What is foretold of this day, of all days to come, and by draws. */
    private static final class Foretelling {
        private static final int WAYS_EACH = 2;
        private static final long DRAW_BY = 16807L, DRAW_REST = 2147483647L;

        final Hill now;
        final Hill told;
        final int[] saidOn = new int[MOTIONS_MAX];

        Foretelling(Hill now, Hill told) {
            this.now = now;
            this.told = told;
        }

        int powerOf(int member, int what) {
            int able = now.ableSet();
            int himself = 1 << member;
            if ((able & himself) == 0) {
                return lowest(0, 1, what);
            }
            int need = now.needToday();
            int own = now.weighs(member, able);
            int speakers = Integer.bitCount(able);
            int turned = 0;
            for (int ahead = 0; ahead < SETS_MAX; ahead++) {
                if ((ahead & ~(able & ~himself)) != 0) {
                    continue;
                }
                int sum = now.weighsSet(ahead, able);
                if (sum < need && sum + own >= need) {
                    int behind = speakers - 1 - Integer.bitCount(ahead);
                    turned += ordersOf(Integer.bitCount(ahead)) * ordersOf(behind);
                }
            }
            return lowest(turned, ordersOf(speakers), what);
        }

        private static int ordersOf(int n) {
            int orders = 1;
            for (int i = 2; i <= n && i <= MEMBERS_MAX; i++) {
                orders *= i;
            }
            return orders;
        }

        int fewestSpeakers(int what) {
            int able = now.ableSet();
            int best = NONE;
            for (int set = 0; set < SETS_MAX; set++) {
                if ((set & ~able) == 0 && now.isCarriedBy(set, able)
                        && (best == NONE || Integer.bitCount(set) < Integer.bitCount(best))) {
                    best = set;
                }
            }
            return best == NONE || what == 1 ? best : Integer.bitCount(best);
        }

        int bestAgenda(int k) {
            int motions = now.motions;
            if (k >= motions) {
                return NONE;
            }
            told.become(now);
            for (int passed = 0; passed < motions; passed++) {
                int able = told.ableSet();
                saidOn[passed] = told.weighsSet(able, able);
                told.passDay(able, able);
            }
            int best = 0;
            int most = -1;
            // An order is one number of digits 0 to 3, the first motion highest: so the first order is the least.
            for (int order = 0; order < 1 << WAYS_EACH * motions; order++) {
                int carriedThen = isOrder(order, motions) ? carriedInOrder(order, motions) : -1;
                if (carriedThen > most) {
                    most = carriedThen;
                    best = order;
                }
            }
            return k < 0 ? most : digit(best, k, motions);
        }

        private static int digit(int number, int k, int digits) {
            return number >> WAYS_EACH * (digits - 1 - k) & 3;
        }

        private static boolean isOrder(int order, int motions) {
            int seen = 0;
            for (int k = 0; k < motions; k++) {
                seen |= 1 << digit(order, k, motions);
            }
            return seen == (1 << motions) - 1;
        }

        private int carriedInOrder(int order, int motions) {
            int carriedThen = 0;
            for (int k = 0; k < motions; k++) {
                if (saidOn[k] >= now.needs[digit(order, k, motions)]) {
                    carriedThen++;
                }
            }
            return carriedThen;
        }

        int fewestLozenges(int k) {
            int members = now.members;
            if (k >= members) {
                return NONE;
            }
            int best = NONE;
            int fewestGiven = 0;
            told.become(now);
            // As with agendas: what the first member gets is the highest digit.
            for (int way = 0; way < 1 << WAYS_EACH * members; way++) {
                int given = give(way);
                if ((best == NONE || given < fewestGiven) && told.isCarriedByAll()) {
                    best = way;
                    fewestGiven = given;
                }
            }
            if (best == NONE) {
                return NONE;
            }
            return k < 0 ? fewestGiven : digit(best, k, members);
        }

        private int give(int way) {
            int given = 0;
            for (int member = 0; member < now.members; member++) {
                int lozenges = digit(way, member, now.members);
                told.breaths[member] = breathAfterLozenges(now.breaths[member], lozenges);
                given += lozenges;
            }
            return given;
        }

        int breathLater(int member, int days) {
            told.become(now);
            told.passDays(days);
            return told.breaths[member];
        }

        int carriedLater(int days) {
            told.become(now);
            return told.passDays(days);
        }

        int carriedInColds(int c, int what) {
            int above = 0;
            int below = 0;
            told.become(now);
            for (int cold = 0; cold < 1 << now.members; cold++) {
                int ways = catchColds(cold, c);
                below += ways;
                if (told.isCarriedByAll()) {
                    above += ways;
                }
            }
            return lowest(above, below, what);
        }

        /** In how many of 10 cases for each member just those have a cold. */
        private int catchColds(int cold, int c) {
            int ways = 1;
            for (int member = 0; member < now.members; member++) {
                boolean has = (cold >> member & 1) != 0;
                told.breaths[member] = has ? Math.max(0, now.breaths[member] - CHILL) : now.breaths[member];
                ways *= has ? c : COLD_MAX - c;
            }
            return ways;
        }

        int sessions(int days, int seed, int what) {
            told.become(now);
            long draw = seed;
            int carriedThen = 0;
            for (int passed = 0; passed < days; passed++) {
                draw = draw * DRAW_BY % DRAW_REST;
                int able = told.ableSet();
                carriedThen += told.passDay(able & (int) (draw % SETS_MAX), able);
            }
            return what == 0 ? carriedThen : breathOfAll();
        }

        private int breathOfAll() {
            int sum = 0;
            for (int member = 0; member < told.members; member++) {
                sum += told.breaths[member];
            }
            return sum;
        }
    }

    /** The best plan: sets are tried in their order, and only a better plan takes the place of the best so far. */
    private static final class Planning {
        final Hill now;
        final Hill told;
        final int[] breathsAhead = new int[PLAN_MAX * MEMBERS_MAX];
        final int[] path = new int[PLAN_MAX];
        final int[] best = new int[PLAN_MAX];
        int days;
        int most;

        Planning(Hill now, Hill told) {
            this.now = now;
            this.told = told;
        }

        int bestDays(int n, int k) {
            if (k >= n) {
                return NONE;
            }
            told.become(now);
            days = n;
            most = -1;
            tryDay(0, 0);
            return k < 0 ? most : best[k];
        }

        private void tryDay(int depth, int carriedSoFar) {
            if (depth >= days || carriedSoFar + days - depth <= most) {
                return;
            }
            int able = told.ableSet();
            if (depth == days - 1) {
                closePlan(able, carriedSoFar);
                return;
            }
            keepBreaths(depth);
            for (int set = 0; set < SETS_MAX; set++) {
                if ((set & ~able) == 0) {
                    path[depth] = set;
                    int carries = told.passDay(set, able);
                    tryDay(depth + 1, carriedSoFar + carries);
                    giveBreathsBack(depth);
                }
            }
        }

        /** Nobody's saying weighs less than nothing, so that all together tell whether the last day can be won. */
        private void closePlan(int able, int carriedSoFar) {
            if (!told.isCarriedBy(able, able)) {
                if (carriedSoFar > most) {
                    takePath(0, carriedSoFar);
                }
                return;
            }
            for (int set = 0; set <= able; set++) {
                if ((set & ~able) == 0 && told.isCarriedBy(set, able)) {
                    takePath(set, carriedSoFar + 1);
                    return;
                }
            }
        }

        private void takePath(int lastSet, int carriedInIt) {
            most = carriedInIt;
            for (int depth = 0; depth < days - 1; depth++) {
                best[depth] = path[depth];
            }
            best[days - 1] = lastSet;
        }

        private void keepBreaths(int depth) {
            System.arraycopy(told.breaths, 0, breathsAhead, depth * MEMBERS_MAX, MEMBERS_MAX);
        }

        private void giveBreathsBack(int depth) {
            System.arraycopy(breathsAhead, depth * MEMBERS_MAX, told.breaths, 0, MEMBERS_MAX);
            told.day = now.day + depth;
        }
    }

    /** By which breath, kind or cost a row of carried motions comes about. */
    private static final class Matching {
        final Hill now;
        final Hill told;
        final Rows rows;

        Matching(Hill now, Hill told, Rows rows) {
            this.now = now;
            this.told = told;
            this.rows = rows;
        }

        int breathsOf(int member, int row, int i, int n) {
            int fitting = 0;
            for (int breath = 0; breath <= BREATH_MAX; breath++) {
                told.become(now);
                told.breaths[member] = breath;
                fitting |= comesAbout(row, i, n) << breath;
            }
            return fitting;
        }

        int sortsOf(int member, int row, int i, int n) {
            int fitting = 0;
            for (int sort = PLAIN; sort <= PRIEST; sort++) {
                told.become(now);
                told.kinds[member] = sort;
                fitting |= comesAbout(row, i, n) << sort;
            }
            return fitting;
        }

        int costsOf(int row, int i, int n) {
            int fitting = 0;
            for (int cost = 1; cost <= COST_MAX; cost++) {
                told.become(now);
                told.cost = cost;
                fitting |= comesAbout(row, i, n) << cost;
            }
            return fitting;
        }

        private int comesAbout(int row, int i, int n) {
            for (int passed = 0; passed < n; passed++) {
                int able = told.ableSet();
                if (told.passDay(able, able) != rows.item(row, i + passed)) {
                    return 0;
                }
            }
            return 1;
        }
    }

    /**
     * Asks of members, by bodies. Plain ones' size asks for their mark, mild ones' mark for their size; as no kind
     * does both, the bodies are told for each of the two by itself and none comes back to where it began.
     */
    private static final class Asks {
        final Hill now;
        final int[] left = new int[TRACE_MAX];
        int leftCount;
        int asked;

        Asks(Hill now) {
            this.now = now;
        }

        int sizeOf(int member) {
            begin(member);
            return isMild() ? mildSize() : plainSize();
        }

        int markOf(int member) {
            begin(member);
            return isMild() ? mildMark() : plainMark();
        }

        int traceAt(int i) {
            return i >= 0 && i < leftCount ? left[i] : NONE;
        }

        private void begin(int member) {
            leftCount = 0;
            asked = member;
        }

        private void leave(int body) {
            if (leftCount < TRACE_MAX) {
                left[leftCount] = body;
                leftCount++;
            }
        }

        private boolean isMild() {
            return isOfKind(now.kinds[asked], MILD);
        }

        private int lentSize() {
            leave(10);
            return now.mends[asked];
        }

        private int lentMark() {
            leave(20);
            return asked;
        }

        private int plainSize() {
            if (now.kinds[asked] == LOUD) {
                leave(12);
                return 0 - sizeOfAnyPlain();
            }
            return sizeOfAnyPlain();
        }

        private int sizeOfAnyPlain() {
            leave(11);
            return lentSize() + plainMark();
        }

        private int plainMark() {
            switch (now.kinds[asked]) {
                case DRY:
                    leave(22);
                    return markOfAnyPlain() - 1000;
                case LOUD:
                    leave(24);
                    return markOfAnyPlain() * 2;
                default:
                    return markOfAnyPlain();
            }
        }

        private int markOfAnyPlain() {
            leave(21);
            return lentMark() + now.breaths[asked];
        }

        private int mildSize() {
            if (now.kinds[asked] == PRIEST) {
                leave(14);
                return sizeOfAnyMild() * 2;
            }
            return sizeOfAnyMild();
        }

        private int sizeOfAnyMild() {
            leave(13);
            return lentSize() - 100;
        }

        private int mildMark() {
            leave(23);
            return lentMark() - mildSize();
        }
    }
}
