import java.util.Arrays;

/** Villages whose people owe one another in rings; ../shared/DOC.md says what each call answers. */
public final class RingVillage {
    public static final int NONE = -1;

    private static final int NO_SUCH = -2;
    private static final int NO_BALANCE = -100000;

    private static final int ALL_VILLAGES = 2;
    private static final int ALL_ROWS = 3;
    private static final int ALL_IMAGES = 3;
    private static final int ALL_BYTES = 600;
    private static final int FED_BYTES = 20;

    private static final int ALL_PEOPLE = 9;
    private static final int CELLS = ALL_PEOPLE * ALL_PEOPLE;
    private static final int FIRST_PEOPLE = 4;
    private static final int ALL_WANTS = 7;
    private static final int ALL_SETS = 1 << ALL_WANTS;
    private static final int MOST_WORD = 99;
    // More than any debt, and than any turns that a loop can need.
    private static final int FAR_ABOVE = 1000000;

    // Of a want: A, B, n, WORTH.
    private static final int WANT_SIZE = 4;
    private static final int WANT_A = 0;
    private static final int WANT_B = 1;
    private static final int WANT_N = 2;
    private static final int WANT_WORTH = 3;

    // Of an act: its kind, then its numbers as they were told.
    private static final int ALL_ACTS = 30;
    private static final int ALL_NUMBERS = 8;
    private static final int ACT_SIZE = 1 + ALL_NUMBERS;
    private static final int ACT_KIND = 0;
    private static final int ACT_FIRST = 1;
    private static final int ACT_SECOND = 2;
    private static final int ACT_THIRD = 3;

    // Of a ring: as ring() tells it by what, then who is in it.
    private static final int RING_MANY = 0;
    private static final int RING_N = 1;
    private static final int RING_TILL = 2;
    private static final int RING_OPEN = 3;
    private static final int RING_WHO = 4;
    private static final int LEAST_IN_RING = 2;
    private static final int MOST_IN_RING = 6;
    private static final int RING_SIZE = RING_WHO + MOST_IN_RING;
    // ONE BY ONE begins a ring for each want behind those of a row's acts.
    private static final int ALL_RINGS = ALL_ACTS + ALL_WANTS;
    private static final int LAST_TILL = 99;

    private static final int SORT_VILLAGE = 0;
    private static final int SORT_ROW = 1;

    private static final int OWE = 0;
    private static final int PAY = 1;
    private static final int RING = 2;
    private static final int STRIKE = 3;
    private static final int FAIL = 4;
    private static final int MONTH = 5;
    private static final int PEOPLE = 6;
    private static final int WORD = 7;
    private static final int ALL = 8;
    private static final int FEE = 9;
    private static final int RISK = 10;
    private static final int SLACK = 11;
    private static final int WANT = 12;
    private static final int VERBS = 13;

    private static final int FAULT_FORM = 1;
    private static final int FAULT_NUMBER = 2;
    private static final int FAULT_MANY = 3;
    private static final int FAULT_PEOPLE = 4;

    private static final int SHORT = 0;
    private static final int CHEAP = 1;
    private static final int FAST = 2;
    private static final int PARTS = 100;
    private static final int MOST_FEE = 99;

    // Where what counts people or places: 10 + p, 20 + p.
    private static final int FIRST_TEN = 10;
    private static final int SECOND_TEN = 20;

    private static final int MOST_MONTHS = 24;
    private static final int MOST_ROLL = 999;
    private static final int SEED_FACTOR = 1103515245;
    private static final int SEED_MORE = 12345;

    private final Told told = new Told();
    private final Told[] images = new Told[ALL_IMAGES];
    private final boolean[] imaged = new boolean[ALL_IMAGES];
    private final Reader reader = new Reader();
    private final State now = new State();
    private final Ledger ledger = new Ledger();
    private final Search search = new Search();
    private final Wishes wishes = new Wishes();
    private final OneByOne oneByOne = new OneByOne();
    private final MonthsBySeed monthsBySeed = new MonthsBySeed();
    private final int[] circle = new int[MOST_IN_RING];

    public RingVillage() {
        for (int k = 0; k < ALL_IMAGES; k++) {
            images[k] = new Told();
        }
    }

    // ---- what is told ----

    public int feed(int a, int b, int c, int d, int e) {
        if (told.length + FED_BYTES > ALL_BYTES) {
            return NONE;
        }
        told.putNumber(a);
        told.putNumber(b);
        told.putNumber(c);
        told.putNumber(d);
        told.putNumber(e);
        return told.length;
    }

    public int end(int n) {
        if (n < 0 || n > told.length) {
            return NONE;
        }
        told.length = n;
        return n;
    }

    public int text(int sort, int at) {
        int length = told.length;
        told.length = 0; // a refused text takes the tape too
        told.fault = 0;
        told.place = NONE;
        int number = told.placeFor(sort, at);
        if (number == NONE) {
            return NO_SUCH;
        }
        reader.readTape(told.tape, length, sort);
        if (reader.fault != 0) {
            told.fault = reader.fault;
            told.place = reader.faultPlace;
            return NONE;
        }
        told.keep(sort, number, reader);
        return number;
    }

    public int fault(int what) {
        if (what == 0) {
            return told.fault;
        }
        return what == 1 ? told.place : NONE;
    }

    public int village(int village, int what) {
        Village v = told.villageAt(village);
        if (v == null) {
            return NONE;
        }
        if (what == 0) {
            return v.people;
        }
        if (what == 1) {
            return v.wants;
        }
        if (what == 2) {
            return v.slack;
        }
        if (what >= FIRST_TEN && v.hasPerson(what - FIRST_TEN)) {
            return v.fees[what - FIRST_TEN];
        }
        if (what >= SECOND_TEN && v.hasPerson(what - SECOND_TEN)) {
            return v.risks[what - SECOND_TEN];
        }
        return NONE;
    }

    public int word(int village, int a, int b) {
        Village v = told.villageAt(village);
        if (v == null || !v.hasPerson(a) || !v.hasPerson(b)) {
            return NONE;
        }
        return v.words[cell(a, b)];
    }

    public int want(int village, int want, int what) {
        Village v = told.villageAt(village);
        if (v == null || !v.hasWant(want) || what < 0 || what >= WANT_SIZE) {
            return NONE;
        }
        return v.wantPart(want, what);
    }

    public int act(int row, int act, int what) {
        Row r = told.rowAt(row);
        if (r == null) {
            return NO_SUCH;
        }
        if (act == NONE) {
            return what == 0 ? r.acts : NO_SUCH;
        }
        if (act < 0 || act >= r.acts || what < 0 || what >= ACT_SIZE) {
            return NO_SUCH;
        }
        return r.actPart(act, what);
    }

    public int count(int what) {
        if (what == 0) {
            return told.villageCount;
        }
        return what == 1 ? told.rowCount : NO_SUCH;
    }

    public boolean image(int k) {
        if (k < 0 || k >= ALL_IMAGES) {
            return false;
        }
        images[k].copyFrom(told);
        imaged[k] = true;
        return true;
    }

    public boolean again(int k) {
        if (k < 0 || k >= ALL_IMAGES || !imaged[k]) {
            return false;
        }
        told.copyFrom(images[k]);
        return true;
    }

    // ---- what is owed by then ----

    public int stop(int village, int row) {
        Village v = told.villageAt(village);
        Row r = told.rowAt(row);
        if (v == null || r == null) {
            return NONE;
        }
        now.start(v);
        for (int i = 0; i < r.acts; i++) {
            if (!now.play(r, i)) {
                return i;
            }
        }
        return r.acts;
    }

    public int hour(int village, int row) {
        Village v = told.villageAt(village);
        Row r = told.rowAt(row);
        if (v == null || r == null) {
            return NONE;
        }
        now.start(v);
        for (int i = 0; i < r.acts; i++) {
            if (!now.play(r, i)) {
                return NONE;
            }
            if (!now.isLawful()) {
                return i;
            }
        }
        return NONE;
    }

    public int owes(int village, int row, int n, int a, int b) {
        if (!loadTwo(village, row, n, a, b)) {
            return NONE;
        }
        return now.owed[cell(a, b)];
    }

    public int room(int village, int row, int n, int a, int b) {
        if (!loadTwo(village, row, n, a, b)) {
            return NONE;
        }
        return now.roomOf(a, b);
    }

    public int over(int village, int row, int n, int p) {
        if (!loadOne(village, row, n, p)) {
            return NO_BALANCE;
        }
        return now.balance(p);
    }

    public boolean lawful(int village, int row, int n) {
        return load(village, row, n) && now.isLawful();
    }

    public int state(int village, int row, int n, int what) {
        if (!load(village, row, n)) {
            return NO_SUCH;
        }
        switch (what) {
            case 0: return now.month;
            case 1: return now.rings;
            case 2: return now.openRings();
            case 3: return now.allOwed();
            case 4: return now.allRoom();
            case 5: return ledger.netted(now);
            case 6: return ledger.parted(now);
            case 7: return ledger.couples(now);
            case 8: return ledger.alone(now);
            case 9: return ledger.groups(now);
            case 10: return ledger.worst(now);
            default: return NO_SUCH;
        }
    }

    public int ring(int village, int row, int n, int ring, int what) {
        if (!load(village, row, n) || ring < 0 || ring >= now.rings) {
            return NONE;
        }
        if (what >= RING_MANY && what <= RING_OPEN) {
            return now.ringPart(ring, what);
        }
        int many = now.ringPart(ring, RING_MANY);
        if (what < FIRST_TEN || what >= FIRST_TEN + many) {
            return NONE;
        }
        return now.ringPart(ring, RING_WHO + what - FIRST_TEN);
    }

    public int falls(int village, int row, int n, int p, boolean hit) {
        if (!loadOne(village, row, n, p)) {
            return NONE;
        }
        return hit ? now.hitBy(p) : now.openRingsOf(p);
    }

    public int roll(int village, int row, int n, int month) {
        if (month < 0 || month > MOST_ROLL || !load(village, row, n)) {
            return NONE;
        }
        return now.openRingsTillBefore(month);
    }

    public int months(int village, int row, int n, int seed, int months, int what) {
        if (months < 0 || months > MOST_MONTHS || what < 0 || what > 3) {
            return NO_SUCH;
        }
        if (!load(village, row, n)) {
            return NO_SUCH;
        }
        monthsBySeed.goOn(now, seed, months);
        switch (what) {
            case 0: return now.openRings();
            case 1: return now.allOwed();
            case 2: return monthsBySeed.failed;
            default: return monthsBySeed.firstUnlawful;
        }
    }

    // ---- rings ----

    public int find(int village, int row, int n, int want, int sort, int what) {
        if (!seek(village, row, n, want, sort)) {
            return NONE;
        }
        if (what == 0) {
            return search.many;
        }
        if (what == 1) {
            return search.cost;
        }
        if (what < FIRST_TEN || what >= FIRST_TEN + search.many) {
            return NONE;
        }
        return search.best[what - FIRST_TEN];
    }

    public long stands(int village, int row, int n, int want, int sort, boolean all) {
        if (!seek(village, row, n, want, sort)) {
            return NONE;
        }
        return all ? Search.allParts(search.many) : search.parts;
    }

    public int bars(int village, int row, int n, int want) {
        if (!loadWant(village, row, n, want)) {
            return NONE;
        }
        Village v = now.village;
        int reached = now.reachedFrom(v.wantPart(want, WANT_B), v.wantPart(want, WANT_N));
        return hasBit(reached, v.wantPart(want, WANT_A)) ? NONE : reached;
    }

    public int rest(int village, int row, int n, int want, int p) {
        if (!loadWant(village, row, n, want) || !now.village.hasPerson(p)) {
            return NONE;
        }
        return search.greatestFee(now, want, p);
    }

    public int early(int village, int row, int n, int a, int b, int much) {
        if (much < 1 || much > MOST_WORD || !loadTwo(village, row, n, a, b)) {
            return NONE;
        }
        if (a == b || now.owed[cell(a, b)] < much) {
            return NONE;
        }
        return now.stepsAround(a, b, much);
    }

    public int stranger(int village, int row, int n, int p, int m, int much) {
        if (m < LEAST_IN_RING || m > MOST_IN_RING || much < 0 || much > MOST_WORD) {
            return NONE;
        }
        if (!loadOne(village, row, n, p)) {
            return NONE;
        }
        return search.ringsThrough(now, p, m, much);
    }

    public int take(int village, int row, int n, int many, int people, int much) {
        if (many < LEAST_IN_RING || many > MOST_IN_RING || much < 1 || much > MOST_WORD) {
            return NONE;
        }
        if (!load(village, row, n) || !figures(many, people)) {
            return NONE;
        }
        return now.fits(circle, many, much) ? 1 : 0;
    }

    public int one(int village, int row, int n, int sort, int what) {
        if (!isSort(sort) || !load(village, row, n)) {
            return NONE;
        }
        int p = what - FIRST_TEN;
        boolean earns = what >= FIRST_TEN && now.village.hasPerson(p);
        if (what != 0 && what != 1 && !earns) {
            return NONE;
        }
        oneByOne.begin(now, search, sort);
        if (what == 0) {
            return oneByOne.which;
        }
        return what == 1 ? oneByOne.value : oneByOne.earns[p];
    }

    // ---- many at one time ----

    public int much(int village, int row, int n, int want) {
        if (!loadWant(village, row, n, want)) {
            return NONE;
        }
        Village v = now.village;
        int a = v.wantPart(want, WANT_A);
        int b = v.wantPart(want, WANT_B);
        int most = Math.min(v.wantPart(want, WANT_N), now.roomOf(a, b));
        wishes.look(now);
        return Math.min(most, wishes.flowOf(b, a));
    }

    public boolean had(int village, int row, int n, int wants, boolean slack) {
        if (!loadWants(village, row, n, wants)) {
            return false;
        }
        return wishes.canHave(wants, slack ? now.village.slack : 0);
    }

    public int most(int village, int row, int n, boolean slack, boolean worth) {
        if (!loadWishes(village, row, n)) {
            return NONE;
        }
        int best = wishes.bestSet(slack ? now.village.slack : 0);
        return worth ? wishes.values[best] : best;
    }

    public int shilling(int village, int row, int n) {
        if (!loadWishes(village, row, n)) {
            return NONE;
        }
        return wishes.bestValue(now.village.slack) - wishes.bestValue(0);
    }

    public int worth(int village, int row, int n, int p) {
        if (!loadWishes(village, row, n) || !now.village.hasPerson(p)) {
            return NONE;
        }
        int before = wishes.bestValue(0);
        wishes.dropPerson(p);
        return before - wishes.bestValue(0);
    }

    public int need(int village, int row, int n, int wants) {
        if (!loadWants(village, row, n, wants)) {
            return NONE;
        }
        return wishes.lacks(wants);
    }

    public int least(int village) {
        Village v = told.villageAt(village);
        if (v == null) {
            return NONE;
        }
        return wishes.leastWord(v);
    }

    public int gap(int village, int row, int n) {
        if (!loadWishes(village, row, n)) {
            return NO_BALANCE;
        }
        int most = wishes.bestValue(0);
        oneByOne.begin(now, search, SHORT);
        return most - oneByOne.value;
    }

    public int tight(int village, int row, int n, int a, int b) {
        if (a == b || !loadTwo(village, row, n, a, b)) {
            return NONE;
        }
        wishes.look(now);
        wishes.markNear();
        return wishes.gainBy(a, b);
    }

    public int opens(int village, int row, int n, boolean second) {
        if (!loadWishes(village, row, n)) {
            return NONE;
        }
        wishes.markNear();
        int found = wishes.greatestGain();
        if (found == NONE) {
            return NONE;
        }
        return second ? found % ALL_PEOPLE : found / ALL_PEOPLE;
    }

    public int lent(int village, int row, int n, int a, int b) {
        if (a == b || !loadTwo(village, row, n, a, b)) {
            return NONE;
        }
        wishes.look(now);
        return wishes.flowOf(a, b);
    }

    public int weak(int village, int row, int n, boolean second) {
        if (!loadWishes(village, row, n)) {
            return NONE;
        }
        int found = wishes.leastFlow();
        return second ? found % ALL_PEOPLE : found / ALL_PEOPLE;
    }

    // ---- what the calls have in common ----

    private static int cell(int a, int b) {
        return a * ALL_PEOPLE + b;
    }

    private static boolean hasBit(int bits, int i) {
        return (bits >> i & 1) != 0;
    }

    private static boolean isSort(int sort) {
        return sort == SHORT || sort == CHEAP || sort == FAST;
    }

    private boolean load(int village, int row, int n) {
        Village v = told.villageAt(village);
        if (v == null) {
            return false;
        }
        now.start(v);
        if (row == NONE) {
            return n == 0;
        }
        Row r = told.rowAt(row);
        if (r == null || n < 0 || n > r.acts) {
            return false;
        }
        for (int i = 0; i < n; i++) {
            if (!now.play(r, i)) {
                return false;
            }
        }
        return true;
    }

    private boolean loadOne(int village, int row, int n, int p) {
        return load(village, row, n) && now.village.hasPerson(p);
    }

    private boolean loadTwo(int village, int row, int n, int a, int b) {
        return load(village, row, n) && now.village.hasPerson(a) && now.village.hasPerson(b);
    }

    private boolean loadWishes(int village, int row, int n) {
        if (!load(village, row, n)) {
            return false;
        }
        wishes.look(now);
        return true;
    }

    private boolean loadWant(int village, int row, int n, int want) {
        return load(village, row, n) && now.village.hasWant(want);
    }

    private boolean loadWants(int village, int row, int n, int wants) {
        if (!load(village, row, n) || wants < 0 || wants >= 1 << now.village.wants) {
            return false;
        }
        wishes.look(now);
        return true;
    }

    private boolean seek(int village, int row, int n, int want, int sort) {
        if (!isSort(sort) || !load(village, row, n) || !now.village.hasWant(want)) {
            return false;
        }
        return search.lookFor(now, want, sort);
    }

    /** Lays the people of take() into the circle; false where they are no ring's. */
    private boolean figures(int many, int people) {
        if (people < 0) {
            return false;
        }
        int left = people;
        int seen = 0;
        for (int i = many - 1; i >= 0; i--) {
            int p = left % 10;
            left = left / 10;
            if (!now.village.hasPerson(p) || hasBit(seen, p)) {
                return false;
            }
            seen |= 1 << p;
            circle[i] = p;
        }
        return left == 0;
    }

    private static final class Village {
        private int people = FIRST_PEOPLE;
        private int slack;
        private int wants;
        private final int[] words = new int[CELLS];
        private final int[] fees = new int[ALL_PEOPLE];
        private final int[] risks = new int[ALL_PEOPLE];
        private final int[] asks = new int[ALL_WANTS * WANT_SIZE];

        void clear() {
            people = FIRST_PEOPLE;
            slack = 0;
            wants = 0;
            Arrays.fill(words, 0);
            Arrays.fill(fees, 0);
            Arrays.fill(risks, 0);
            Arrays.fill(asks, 0);
        }

        void copyFrom(Village other) {
            people = other.people;
            slack = other.slack;
            wants = other.wants;
            System.arraycopy(other.words, 0, words, 0, CELLS);
            System.arraycopy(other.fees, 0, fees, 0, ALL_PEOPLE);
            System.arraycopy(other.risks, 0, risks, 0, ALL_PEOPLE);
            System.arraycopy(other.asks, 0, asks, 0, ALL_WANTS * WANT_SIZE);
        }

        boolean hasPerson(int p) {
            return p >= 0 && p < people;
        }

        boolean hasWant(int want) {
            return want >= 0 && want < wants;
        }

        int wantPart(int want, int part) {
            return asks[want * WANT_SIZE + part];
        }

        void setAllWords(int n) {
            for (int a = 0; a < ALL_PEOPLE; a++) {
                for (int b = 0; b < ALL_PEOPLE; b++) {
                    words[cell(a, b)] = a == b ? 0 : n;
                }
            }
        }

        void addWant(int[] numbers) {
            if (wants < ALL_WANTS) {
                System.arraycopy(numbers, 0, asks, wants * WANT_SIZE, WANT_SIZE);
                wants++;
            }
        }
    }

    private static final class Row {
        private int acts;
        private final int[] parts = new int[ALL_ACTS * ACT_SIZE];

        void clear() {
            acts = 0;
        }

        void copyFrom(Row other) {
            acts = other.acts;
            System.arraycopy(other.parts, 0, parts, 0, ALL_ACTS * ACT_SIZE);
        }

        int actPart(int act, int part) {
            return parts[act * ACT_SIZE + part];
        }

        void addAct(int kind, int[] numbers, int many) {
            if (acts >= ALL_ACTS) {
                return;
            }
            int first = acts * ACT_SIZE;
            parts[first + ACT_KIND] = kind;
            for (int i = 0; i < ALL_NUMBERS; i++) {
                parts[first + ACT_FIRST + i] = i < many ? numbers[i] : NONE;
            }
            acts++;
        }
    }

    /** All that an image holds. */
    private static final class Told {
        private final Village[] villages = new Village[ALL_VILLAGES];
        private final Row[] rows = new Row[ALL_ROWS];
        private int villageCount;
        private int rowCount;
        private final byte[] tape = new byte[ALL_BYTES];
        private int length;
        private int fault;
        private int place = NONE;

        Told() {
            for (int i = 0; i < ALL_VILLAGES; i++) {
                villages[i] = new Village();
            }
            for (int i = 0; i < ALL_ROWS; i++) {
                rows[i] = new Row();
            }
        }

        void copyFrom(Told other) {
            villageCount = other.villageCount;
            rowCount = other.rowCount;
            for (int i = 0; i < villageCount; i++) {
                villages[i].copyFrom(other.villages[i]);
            }
            for (int i = 0; i < rowCount; i++) {
                rows[i].copyFrom(other.rows[i]);
            }
            length = other.length;
            System.arraycopy(other.tape, 0, tape, 0, length);
            fault = other.fault;
            place = other.place;
        }

        Village villageAt(int i) {
            return i >= 0 && i < villageCount ? villages[i] : null;
        }

        Row rowAt(int i) {
            return i >= 0 && i < rowCount ? rows[i] : null;
        }

        void putNumber(int number) {
            for (int shift = 24; shift >= 0 && length < ALL_BYTES; shift -= 8) {
                tape[length] = (byte) (number >> shift);
                length++;
            }
        }

        int placeFor(int sort, int at) {
            if (sort != SORT_VILLAGE && sort != SORT_ROW) {
                return NONE;
            }
            int many = sort == SORT_VILLAGE ? villageCount : rowCount;
            int most = sort == SORT_VILLAGE ? ALL_VILLAGES : ALL_ROWS;
            if (at == NONE) {
                return many < most ? many : NONE;
            }
            return at >= 0 && at < many ? at : NONE;
        }

        /** The number is one that placeFor() gave for this sort. */
        void keep(int sort, int number, Reader reader) {
            if (sort == SORT_VILLAGE) {
                villages[number].copyFrom(reader.village);
                villageCount = Math.max(villageCount, number + 1);
            } else {
                rows[number].copyFrom(reader.row);
                rowCount = Math.max(rowCount, number + 1);
            }
        }
    }

    /** Reads a tape into a village and a row of its own, so that a fault leaves what is told as it was. */
    private static final class Reader {
        private static final int TOKEN_END = 0;
        private static final int TOKEN_LETTERS = 1;
        private static final int TOKEN_NUMBER = 2;
        private static final int TOKEN_SEMICOLON = 3;
        private static final int TOKEN_NONE = 4;
        private static final int MOST_DIGITS = 2;

        // By verb, in the order of their numbers: how many numbers are due.
        private static final int[] DUE = {3, 3, 4, 1, 1, 0, 1, 3, 1, 2, 2, 1, 4};
        // What each of these may be, four a verb; a ring's further ones are as its fourth.
        private static final int LIMITS = 4;
        private static final int[] LOW = {
            0, 0, 1, 0,
            0, 0, 1, 0,
            1, 0, 0, 0,
            0, 0, 0, 0,
            0, 0, 0, 0,
            0, 0, 0, 0,
            2, 0, 0, 0,
            0, 0, 0, 0,
            0, 0, 0, 0,
            0, 0, 0, 0,
            0, 0, 0, 0,
            0, 0, 0, 0,
            0, 0, 1, 0};
        private static final int[] HIGH = {
            8, 8, 99, 0,
            8, 8, 99, 0,
            99, 99, 8, 8,
            29, 0, 0, 0,
            8, 0, 0, 0,
            0, 0, 0, 0,
            9, 0, 0, 0,
            8, 8, 99, 0,
            99, 0, 0, 0,
            8, 99, 0, 0,
            8, 100, 0, 0,
            9, 0, 0, 0,
            8, 8, 99, 99};
        private static final int RING_FIRST = 2;

        private final Village village = new Village();
        private final Row row = new Row();
        private final int[] numbers = new int[ALL_NUMBERS];
        private byte[] tape = new byte[0];
        private int length;
        private int at;
        private int token;
        private int place;
        private int value;
        private int farthest;
        private int fault;
        private int faultPlace;

        void readTape(byte[] bytes, int many, int sort) {
            village.clear();
            row.clear();
            tape = bytes;
            length = Math.min(many, bytes.length);
            at = 0;
            farthest = NONE;
            fault = 0;
            faultPlace = NONE;
            nextToken();
            for (int turn = 0; turn <= length && token != TOKEN_END; turn++) {
                if (!readSentence(sort)) {
                    fault = FAULT_FORM;
                    faultPlace = place;
                    return;
                }
            }
            if (sort == SORT_VILLAGE && farthest >= village.people) {
                note(FAULT_PEOPLE, length);
            }
        }

        /** Faults are met in the order of their places, so the first one noted is the one to tell. */
        private void note(int number, int where) {
            if (fault == 0) {
                fault = number;
                faultPlace = where;
            }
        }

        private boolean readSentence(int sort) {
            int verb = verbOf(sort);
            if (verb == NONE) {
                return false;
            }
            if (isOneTooMany(verb)) {
                note(FAULT_MANY, place);
            }
            nextToken();
            int many = 0;
            for (int turn = 0; turn < length && token == TOKEN_NUMBER; turn++) {
                if (many >= DUE[verb] && verb != RING) {
                    return false;
                }
                judge(verb, many);
                if (many < ALL_NUMBERS) {
                    numbers[many] = value;
                }
                many++;
                nextToken();
            }
            if (many < DUE[verb] || token != TOKEN_SEMICOLON) {
                return false;
            }
            nextToken();
            if (fault == 0) {
                keepSentence(verb, many);
            }
            return true;
        }

        private boolean isOneTooMany(int verb) {
            if (verb == WANT) {
                return village.wants >= ALL_WANTS;
            }
            return isAct(verb) && row.acts >= ALL_ACTS;
        }

        private static boolean isAct(int verb) {
            return verb <= MONTH;
        }

        private void judge(int verb, int i) {
            int limit = verb * LIMITS + Math.min(i, LIMITS - 1);
            if (value < LOW[limit] || value > HIGH[limit] || isTwice(verb, i)) {
                note(FAULT_NUMBER, place);
            }
            if (i >= ALL_NUMBERS) {
                note(FAULT_MANY, place);
            }
        }

        private boolean isTwice(int verb, int i) {
            if (verb == OWE || verb == PAY || verb == WORD || verb == WANT) {
                return i == 1 && value == numbers[0];
            }
            if (verb != RING) {
                return false;
            }
            for (int k = RING_FIRST; k < i && k < ALL_NUMBERS; k++) {
                if (value == numbers[k]) {
                    return true;
                }
            }
            return false;
        }

        private void keepSentence(int verb, int many) {
            if (isAct(verb)) {
                row.addAct(verb, numbers, many);
                return;
            }
            switch (verb) {
                case PEOPLE:
                    village.people = numbers[0];
                    break;
                case WORD:
                    farthest = Math.max(farthest, Math.max(numbers[0], numbers[1]));
                    village.words[cell(numbers[0], numbers[1])] = numbers[2];
                    break;
                case ALL:
                    village.setAllWords(numbers[0]);
                    break;
                case FEE:
                    farthest = Math.max(farthest, numbers[0]);
                    village.fees[numbers[0]] = numbers[1];
                    break;
                case RISK:
                    farthest = Math.max(farthest, numbers[0]);
                    village.risks[numbers[0]] = numbers[1];
                    break;
                case SLACK:
                    village.slack = numbers[0];
                    break;
                default:
                    farthest = Math.max(farthest, Math.max(numbers[0], numbers[1]));
                    village.addWant(numbers);
                    break;
            }
        }

        private int verbOf(int sort) {
            if (token != TOKEN_LETTERS) {
                return NONE;
            }
            int first = sort == SORT_VILLAGE ? PEOPLE : OWE;
            int behind = sort == SORT_VILLAGE ? VERBS : PEOPLE;
            for (int verb = first; verb < behind; verb++) {
                if (isTokenText(verbText(verb))) {
                    return verb;
                }
            }
            return NONE;
        }

        private static String verbText(int verb) {
            switch (verb) {
                case OWE: return "owe";
                case PAY: return "pay";
                case RING: return "ring";
                case STRIKE: return "strike";
                case FAIL: return "fail";
                case MONTH: return "month";
                case PEOPLE: return "people";
                case WORD: return "word";
                case ALL: return "all";
                case FEE: return "fee";
                case RISK: return "risk";
                case SLACK: return "slack";
                default: return "want";
            }
        }

        private boolean isTokenText(String text) {
            if (at - place != text.length()) {
                return false;
            }
            for (int i = 0; i < text.length(); i++) {
                if (byteAt(place + i) != text.charAt(i)) {
                    return false;
                }
            }
            return true;
        }

        private int byteAt(int i) {
            return i >= 0 && i < length ? tape[i] : NONE;
        }

        private static boolean isBlank(int b) {
            return b == 10 || b == 32;
        }

        private static boolean isLetter(int b) {
            return b >= 'a' && b <= 'z';
        }

        private static boolean isDigit(int b) {
            return b >= '0' && b <= '9';
        }

        private void nextToken() {
            while (at < length && isBlank(byteAt(at))) {
                at++;
            }
            place = at;
            int b = byteAt(at);
            if (at >= length) {
                token = TOKEN_END;
            } else if (isLetter(b)) {
                token = TOKEN_LETTERS;
                while (at < length && isLetter(byteAt(at))) {
                    at++;
                }
            } else if (isDigit(b)) {
                readDigits();
            } else {
                token = b == ';' ? TOKEN_SEMICOLON : TOKEN_NONE;
                at++;
            }
        }

        private void readDigits() {
            value = 0;
            while (at < length && isDigit(byteAt(at))) {
                value = at - place < MOST_DIGITS ? value * 10 + byteAt(at) - '0' : value;
                at++;
            }
            token = at - place > MOST_DIGITS ? TOKEN_NONE : TOKEN_NUMBER;
        }
    }

    /** What is behind some acts of a row in a village. */
    private static final class State {
        private Village village = new Village();
        private int month;
        private int rings;
        private final int[] owed = new int[CELLS];
        private final int[] ringParts = new int[ALL_RINGS * RING_SIZE];
        private final int[] circle = new int[MOST_IN_RING];

        void start(Village v) {
            village = v;
            month = 0;
            rings = 0;
            Arrays.fill(owed, 0);
        }

        void copyFrom(State other) {
            village = other.village;
            month = other.month;
            rings = other.rings;
            System.arraycopy(other.owed, 0, owed, 0, CELLS);
            System.arraycopy(other.ringParts, 0, ringParts, 0, rings * RING_SIZE);
        }

        int ringPart(int ring, int part) {
            return ringParts[ring * RING_SIZE + part];
        }

        int roomOf(int a, int b) {
            if (a == b) {
                return 0;
            }
            return Math.max(0, village.words[cell(b, a)] - owed[cell(a, b)]);
        }

        /** False, and nothing is changed, if the act can't be. */
        boolean play(Row row, int act) {
            int first = row.actPart(act, ACT_FIRST);
            int second = row.actPart(act, ACT_SECOND);
            int third = row.actPart(act, ACT_THIRD);
            switch (row.actPart(act, ACT_KIND)) {
                case OWE: return beginDebt(first, second, third);
                case PAY: return payDebt(first, second, third);
                case RING: return beginToldRing(row, act);
                case STRIKE: return strikeOpenRing(first);
                case FAIL: return failPerson(first);
                default: return passMonth();
            }
        }

        private boolean beginDebt(int a, int b, int n) {
            if (!village.hasPerson(a) || !village.hasPerson(b) || roomOf(a, b) < n) {
                return false;
            }
            owed[cell(a, b)] += n;
            return true;
        }

        private boolean payDebt(int a, int b, int n) {
            if (!village.hasPerson(a) || !village.hasPerson(b) || owed[cell(a, b)] < n) {
                return false;
            }
            owed[cell(a, b)] -= n;
            return true;
        }

        private boolean beginToldRing(Row row, int act) {
            int many = 0;
            for (int i = 0; i < MOST_IN_RING; i++) {
                int p = row.actPart(act, ACT_THIRD + i);
                if (p != NONE) {
                    circle[many] = p;
                    many++;
                }
            }
            int n = row.actPart(act, ACT_FIRST);
            if (!fits(circle, many, n)) {
                return false;
            }
            addRing(circle, many, n, row.actPart(act, ACT_SECOND));
            return true;
        }

        /** Whether a ring of the first many of these could be begun. */
        boolean fits(int[] who, int many, int n) {
            for (int i = 0; i < many; i++) {
                int next = who[i + 1 < many ? i + 1 : 0];
                if (!village.hasPerson(who[i]) || !village.hasPerson(next) || roomOf(who[i], next) < n) {
                    return false;
                }
            }
            return true;
        }

        /** For a ring that fits. */
        void addRing(int[] who, int many, int n, int till) {
            if (rings >= ALL_RINGS) {
                return;
            }
            int first = rings * RING_SIZE;
            ringParts[first + RING_MANY] = many;
            ringParts[first + RING_N] = n;
            ringParts[first + RING_TILL] = till;
            ringParts[first + RING_OPEN] = 1;
            for (int i = 0; i < many; i++) {
                ringParts[first + RING_WHO + i] = who[i];
                owed[cell(who[i], who[i + 1 < many ? i + 1 : 0])] += n;
            }
            rings++;
        }

        private boolean isOpen(int ring) {
            return ringPart(ring, RING_OPEN) == 1;
        }

        private int membersOf(int ring) {
            int bits = 0;
            for (int i = 0; i < ringPart(ring, RING_MANY); i++) {
                bits |= 1 << ringPart(ring, RING_WHO + i);
            }
            return bits;
        }

        private boolean isOpenWith(int ring, int p) {
            return isOpen(ring) && hasBit(membersOf(ring), p);
        }

        private void strikeRing(int ring) {
            int many = ringPart(ring, RING_MANY);
            int n = ringPart(ring, RING_N);
            for (int i = 0; i < many; i++) {
                int from = ringPart(ring, RING_WHO + i);
                int to = ringPart(ring, RING_WHO + (i + 1 < many ? i + 1 : 0));
                // Some of the ring's debt may have been paid or have fallen before.
                owed[cell(from, to)] = Math.max(0, owed[cell(from, to)] - n);
            }
            ringParts[ring * RING_SIZE + RING_OPEN] = 0;
        }

        private boolean strikeOpenRing(int ring) {
            if (ring < 0 || ring >= rings || !isOpen(ring)) {
                return false;
            }
            strikeRing(ring);
            return true;
        }

        boolean failPerson(int p) {
            if (!village.hasPerson(p)) {
                return false;
            }
            for (int ring = 0; ring < rings; ring++) {
                if (isOpenWith(ring, p)) {
                    strikeRing(ring);
                }
            }
            for (int other = 0; other < village.people; other++) {
                owed[cell(p, other)] = 0;
                owed[cell(other, p)] = 0;
            }
            return true;
        }

        /** True: a month can always be. */
        boolean passMonth() {
            month++;
            for (int ring = 0; ring < rings; ring++) {
                if (isOpen(ring) && ringPart(ring, RING_TILL) < month) {
                    strikeRing(ring);
                }
            }
            return true;
        }

        int balance(int p) {
            int over = 0;
            for (int other = 0; other < village.people; other++) {
                over += owed[cell(p, other)] - owed[cell(other, p)];
            }
            return over;
        }

        boolean isWithin(int apart) {
            for (int p = 0; p < village.people; p++) {
                if (Math.abs(balance(p)) > apart) {
                    return false;
                }
            }
            return true;
        }

        boolean isLawful() {
            return isWithin(village.slack);
        }

        int allOwed() {
            int all = 0;
            for (int c = 0; c < CELLS; c++) {
                all += owed[c];
            }
            return all;
        }

        int allRoom() {
            int all = 0;
            for (int a = 0; a < village.people; a++) {
                for (int b = 0; b < village.people; b++) {
                    all += roomOf(a, b);
                }
            }
            return all;
        }

        int openRings() {
            int bits = 0;
            for (int ring = 0; ring < rings; ring++) {
                bits |= isOpen(ring) ? 1 << ring : 0;
            }
            return bits;
        }

        int openRingsOf(int p) {
            int bits = 0;
            for (int ring = 0; ring < rings; ring++) {
                bits |= isOpenWith(ring, p) ? 1 << ring : 0;
            }
            return bits;
        }

        int openRingsTillBefore(int limit) {
            int bits = 0;
            for (int ring = 0; ring < rings; ring++) {
                bits |= isOpen(ring) && ringPart(ring, RING_TILL) < limit ? 1 << ring : 0;
            }
            return bits;
        }

        int hitBy(int p) {
            int bits = 0;
            for (int ring = 0; ring < rings; ring++) {
                bits |= isOpenWith(ring, p) ? membersOf(ring) : 0;
            }
            return bits & ~(1 << p);
        }

        private int nextFrom(int a, int n) {
            int bits = 0;
            for (int b = 0; b < village.people; b++) {
                bits |= b != a && roomOf(a, b) >= n ? 1 << b : 0;
            }
            return bits;
        }

        private int nextFromAll(int bits, int n) {
            int reached = 0;
            for (int a = 0; a < village.people; a++) {
                reached |= hasBit(bits, a) ? nextFrom(a, n) : 0;
            }
            return reached;
        }

        int reachedFrom(int start, int n) {
            int reached = 1 << start;
            for (int step = 0; step < village.people; step++) {
                reached |= nextFromAll(reached, n);
            }
            return reached;
        }

        /** How many debts lead from a to b without the one between them; NONE if none do. */
        int stepsAround(int a, int b, int n) {
            int reached = 1 << a | nextFrom(a, n) & ~(1 << b);
            for (int steps = 2; steps < village.people; steps++) {
                // From a himself nothing new comes but b, by the debt that does not count.
                reached |= nextFromAll(reached & ~(1 << a), n);
                if (hasBit(reached, b)) {
                    return steps;
                }
            }
            return NONE;
        }
    }

    /** What is told of a state's debts as a whole. */
    private static final class Ledger {
        private final int[] debts = new int[CELLS];
        private final int[] walk = new int[ALL_PEOPLE];
        private final int[] walked = new int[ALL_PEOPLE];
        private final State trial = new State();

        int netted(State state) {
            int left = state.allOwed();
            for (int a = 0; a < ALL_PEOPLE; a++) {
                for (int b = 0; b < a; b++) {
                    left -= 2 * Math.min(state.owed[cell(a, b)], state.owed[cell(b, a)]);
                }
            }
            return left;
        }

        int couples(State state) {
            int many = 0;
            for (int a = 0; a < ALL_PEOPLE; a++) {
                for (int b = 0; b < a; b++) {
                    many += state.owed[cell(a, b)] > 0 && state.owed[cell(b, a)] > 0 ? 1 : 0;
                }
            }
            return many;
        }

        private int partnersOf(State state, int p) {
            int bits = 0;
            for (int other = 0; other < state.village.people; other++) {
                int between = state.owed[cell(p, other)] + state.owed[cell(other, p)];
                bits |= between > 0 ? 1 << other : 0;
            }
            return bits;
        }

        int alone(State state) {
            int bits = 0;
            for (int p = 0; p < state.village.people; p++) {
                bits |= partnersOf(state, p) == 0 ? 1 << p : 0;
            }
            return bits;
        }

        int groups(State state) {
            int seen = alone(state);
            int many = 0;
            for (int p = 0; p < state.village.people; p++) {
                if (!hasBit(seen, p)) {
                    seen |= groupOf(state, p);
                    many++;
                }
            }
            return many;
        }

        private int groupOf(State state, int first) {
            int group = 1 << first;
            for (int step = 0; step < state.village.people; step++) {
                int wider = group;
                for (int p = 0; p < state.village.people; p++) {
                    wider |= hasBit(group, p) ? partnersOf(state, p) : 0;
                }
                group = wider;
            }
            return group;
        }

        int worst(State state) {
            int worst = 0;
            int least = 0;
            for (int p = 0; p < state.village.people; p++) {
                trial.copyFrom(state);
                trial.failPerson(p);
                int left = trial.allOwed();
                if (p == 0 || left < least) {
                    worst = p;
                    least = left;
                }
            }
            return worst;
        }

        int parted(State state) {
            if (!state.isWithin(0)) {
                return NONE;
            }
            System.arraycopy(state.owed, 0, debts, 0, CELLS);
            int many = 0;
            // Each ring ends one debt at least, so there are never more than debts.
            for (int turn = 0; turn < CELLS; turn++) {
                int first = leastWhoOwes();
                if (first == NONE) {
                    break;
                }
                takeRingOff(first);
                many++;
            }
            return many;
        }

        private int leastWhoOwes() {
            for (int p = 0; p < ALL_PEOPLE; p++) {
                if (leastOwedBy(p) != NONE) {
                    return p;
                }
            }
            return NONE;
        }

        private int leastOwedBy(int p) {
            for (int other = 0; other < ALL_PEOPLE; other++) {
                if (debts[cell(p, other)] > 0) {
                    return other;
                }
            }
            return NONE;
        }

        private void takeRingOff(int first) {
            Arrays.fill(walked, NONE);
            int p = first;
            int many = 0;
            while (many < ALL_PEOPLE && p != NONE && walked[p] == NONE) {
                walked[p] = many;
                walk[many] = p;
                many++;
                p = leastOwedBy(p);
            }
            // Who is owed as much as he owes always has one to go on to.
            if (p == NONE) {
                return;
            }
            int start = walked[p];
            int least = FAR_ABOVE;
            for (int i = start; i < many; i++) {
                least = Math.min(least, debts[walkCell(i, start, many)]);
            }
            for (int i = start; i < many; i++) {
                debts[walkCell(i, start, many)] -= least;
            }
        }

        private int walkCell(int i, int start, int many) {
            return cell(walk[i], walk[i + 1 < many ? i + 1 : start]);
        }
    }

    /** Goes through the rings that a state has room for. */
    private static final class Search {
        private State state = new State();
        private int sort;
        private int n;
        private final int[] fees = new int[ALL_PEOPLE];
        private final int[] path = new int[MOST_IN_RING];
        private final int[] best = new int[MOST_IN_RING];
        private int many;
        private int cost;
        private long parts;

        boolean lookFor(State in, int want, int by) {
            System.arraycopy(in.village.fees, 0, fees, 0, ALL_PEOPLE);
            return lookByFees(in, want, by);
        }

        private boolean lookByFees(State in, int want, int by) {
            state = in;
            sort = by;
            n = in.village.wantPart(want, WANT_N);
            path[0] = in.village.wantPart(want, WANT_A);
            path[1] = in.village.wantPart(want, WANT_B);
            many = 0;
            if (in.roomOf(path[0], path[1]) >= n) {
                extend(this, LEAST_IN_RING, 1 << path[0] | 1 << path[1]);
            }
            return many > 0;
        }

        /** Rings of one length come by rows of numbers, so a later one strikes only if it is better. */
        private static void extend(Search s, int depth, int seen) {
            int last = s.path[depth - 1];
            if (s.state.roomOf(last, s.path[0]) >= s.n) {
                s.consider(depth);
            }
            if (depth >= MOST_IN_RING) {
                return;
            }
            for (int p = 0; p < s.state.village.people; p++) {
                if (!hasBit(seen, p) && s.state.roomOf(last, p) >= s.n) {
                    s.path[depth] = p;
                    extend(s, depth + 1, seen | 1 << p);
                }
            }
        }

        private void consider(int length) {
            int price = 0;
            long chance = 1;
            for (int i = 0; i < length; i++) {
                price += i < LEAST_IN_RING ? 0 : fees[path[i]];
                chance *= PARTS - state.village.risks[path[i]];
            }
            if (many == 0 || isBetter(length, price, chance)) {
                many = length;
                cost = price;
                parts = chance;
                System.arraycopy(path, 0, best, 0, length);
            }
        }

        private boolean isBetter(int length, int price, long chance) {
            if (sort == CHEAP && price != cost) {
                return price < cost;
            }
            if (sort == FAST) {
                long mine = chance * allParts(MOST_IN_RING - length);
                long other = parts * allParts(MOST_IN_RING - many);
                if (mine != other) {
                    return mine > other;
                }
            }
            return length < many;
        }

        static long allParts(int length) {
            long all = 1;
            for (int i = 0; i < length; i++) {
                all *= PARTS;
            }
            return all;
        }

        /** Who is in it with some fee is in it with each lesser one: only his rings become cheaper. */
        int greatestFee(State in, int want, int p) {
            System.arraycopy(in.village.fees, 0, fees, 0, ALL_PEOPLE);
            int good = NONE;
            int bad = MOST_FEE + 1;
            for (int turn = 0; turn < MOST_FEE && bad - good > 1; turn++) {
                int middle = (good + bad) >> 1;
                fees[p] = middle;
                if (lookByFees(in, want, CHEAP) && isInBest(p)) {
                    good = middle;
                } else {
                    bad = middle;
                }
            }
            return good;
        }

        private boolean isInBest(int p) {
            for (int i = 0; i < many; i++) {
                if (best[i] == p) {
                    return true;
                }
            }
            return false;
        }

        int ringsThrough(State in, int p, int most, int much) {
            state = in;
            n = much;
            path[0] = p;
            return countRings(this, 1, 1 << p, most);
        }

        /** All rings begin with the same one, so none is counted turned. */
        private static int countRings(Search s, int depth, int seen, int most) {
            int last = s.path[depth - 1];
            int all = depth >= LEAST_IN_RING && s.state.roomOf(last, s.path[0]) >= s.n ? 1 : 0;
            if (depth >= most || depth >= MOST_IN_RING) {
                return all;
            }
            for (int p = 0; p < s.state.village.people; p++) {
                if (!hasBit(seen, p) && s.state.roomOf(last, p) >= s.n) {
                    s.path[depth] = p;
                    all += countRings(s, depth + 1, seen | 1 << p, most);
                }
            }
            return all;
        }
    }

    private static final class OneByOne {
        private int which;
        private int value;
        private final int[] earns = new int[ALL_PEOPLE];

        void begin(State state, Search search, int sort) {
            Village v = state.village;
            which = 0;
            value = 0;
            Arrays.fill(earns, 0);
            for (int want = 0; want < v.wants; want++) {
                int n = v.wantPart(want, WANT_N);
                if (search.lookFor(state, want, sort)) {
                    state.addRing(search.best, search.many, n, LAST_TILL);
                    which |= 1 << want;
                    value += v.wantPart(want, WANT_WORTH);
                    payFees(v, search, n);
                }
            }
        }

        private void payFees(Village v, Search search, int n) {
            // The first two of a ring for a want are its A and B.
            for (int i = LEAST_IN_RING; i < search.many; i++) {
                int p = search.best[i];
                earns[p] += v.fees[p] * n;
            }
        }
    }

    private static final class MonthsBySeed {
        private int x;
        private int failed;
        private int firstUnlawful;

        void goOn(State state, int seed, int months) {
            x = seed;
            failed = 0;
            firstUnlawful = NONE;
            for (int i = 0; i < months; i++) {
                failSome(state);
                state.passMonth();
                if (firstUnlawful == NONE && !state.isLawful()) {
                    firstUnlawful = i;
                }
            }
        }

        private void failSome(State state) {
            for (int p = 0; p < state.village.people; p++) {
                if (drawBelowHundred() < state.village.risks[p]) {
                    state.failPerson(p);
                    failed++;
                }
            }
        }

        private int drawBelowHundred() {
            x = x * SEED_FACTOR + SEED_MORE;
            return (x >>> 16) % 100;
        }
    }

    /** Whole debts that go from one to another within limits. */
    private static final class Flow {
        // Behind the people: one to whom and from whom slack goes, and the two ends.
        private static final int COMMON = ALL_PEOPLE;
        private static final int SOURCE = ALL_PEOPLE + 1;
        private static final int SINK = ALL_PEOPLE + 2;
        private static final int NODES = ALL_PEOPLE + 3;

        private final int[] free = new int[NODES * NODES];
        private final int[] cameFrom = new int[NODES];
        private final int[] queue = new int[NODES];

        void clear() {
            Arrays.fill(free, 0);
        }

        void allow(int from, int to, int much) {
            free[from * NODES + to] = much;
        }

        int mostThrough(int from, int to) {
            int all = 0;
            for (int turn = 0; turn < FAR_ABOVE; turn++) {
                if (!findWay(from, to)) {
                    return all;
                }
                all += pushAlong(from, to);
            }
            return all;
        }

        private boolean findWay(int from, int to) {
            Arrays.fill(cameFrom, NONE);
            cameFrom[from] = from;
            queue[0] = from;
            int behind = 1;
            for (int i = 0; i < behind && i < NODES; i++) {
                int node = queue[i];
                for (int next = 0; next < NODES; next++) {
                    if (cameFrom[next] == NONE && free[node * NODES + next] > 0) {
                        cameFrom[next] = node;
                        queue[behind] = next;
                        behind++;
                    }
                }
                if (cameFrom[to] != NONE) {
                    return true;
                }
            }
            return false;
        }

        private int pushAlong(int from, int to) {
            int much = FAR_ABOVE;
            int node = to;
            for (int step = 0; step < NODES && node != from; step++) {
                much = Math.min(much, free[cameFrom[node] * NODES + node]);
                node = cameFrom[node];
            }
            node = to;
            for (int step = 0; step < NODES && node != from; step++) {
                int before = cameFrom[node];
                free[before * NODES + node] -= much;
                free[node * NODES + before] += much;
                node = before;
            }
            return much;
        }
    }

    /** Which wants can be had at one time within some room. */
    private static final class Wishes {
        private Village village = new Village();
        private final int[] rooms = new int[CELLS];
        private final int[] asked = new int[CELLS];
        private final int[] surplus = new int[ALL_PEOPLE];
        private final int[] values = new int[ALL_SETS];
        private final boolean[] near = new boolean[ALL_SETS];
        private final Flow flow = new Flow();
        private int sets;
        private int gainedFrom;

        void look(State state) {
            takeVillage(state.village);
            for (int a = 0; a < village.people; a++) {
                for (int b = 0; b < village.people; b++) {
                    rooms[cell(a, b)] = state.roomOf(a, b);
                }
            }
        }

        private void takeVillage(Village v) {
            village = v;
            sets = 1 << v.wants;
            values[0] = 0;
            for (int want = 0; want < v.wants; want++) {
                for (int set = 0; set < 1 << want; set++) {
                    values[set | 1 << want] = values[set] + v.wantPart(want, WANT_WORTH);
                }
            }
        }

        void dropPerson(int p) {
            for (int other = 0; other < village.people; other++) {
                rooms[cell(p, other)] = 0;
                rooms[cell(other, p)] = 0;
            }
        }

        private void setRooms(int n) {
            for (int a = 0; a < village.people; a++) {
                for (int b = 0; b < village.people; b++) {
                    rooms[cell(a, b)] = a == b ? 0 : n;
                }
            }
        }

        int flowOf(int from, int to) {
            flow.clear();
            for (int a = 0; a < village.people; a++) {
                for (int b = 0; b < village.people; b++) {
                    flow.allow(a, b, rooms[cell(a, b)]);
                }
            }
            return flow.mostThrough(from, to);
        }

        int leastFlow() {
            int found = NONE;
            int least = 0;
            for (int a = 0; a < village.people; a++) {
                for (int b = 0; b < village.people; b++) {
                    int through = a == b ? 0 : flowOf(a, b);
                    if (a != b && (found == NONE || through < least)) {
                        found = cell(a, b);
                        least = through;
                    }
                }
            }
            return found;
        }

        /** Lays out what the wants' own debts are and whom they leave owed more than he owes: how much room these lack. */
        private int ask(int wants) {
            Arrays.fill(asked, 0);
            Arrays.fill(surplus, 0);
            int lacking = 0;
            for (int want = 0; want < village.wants; want++) {
                if (hasBit(wants, want)) {
                    int n = village.wantPart(want, WANT_N);
                    int a = village.wantPart(want, WANT_A);
                    int b = village.wantPart(want, WANT_B);
                    int before = Math.max(0, asked[cell(a, b)] - rooms[cell(a, b)]);
                    asked[cell(a, b)] += n;
                    lacking += Math.max(0, asked[cell(a, b)] - rooms[cell(a, b)]) - before;
                    surplus[a] -= n;
                    surplus[b] += n;
                }
            }
            return lacking;
        }

        /** How much of what was asked can't go round in the room that is left. */
        private int unmet(int slack) {
            flow.clear();
            int due = 0;
            for (int a = 0; a < village.people; a++) {
                for (int b = 0; b < village.people; b++) {
                    flow.allow(a, b, Math.max(0, rooms[cell(a, b)] - asked[cell(a, b)]));
                }
                flow.allow(a, Flow.COMMON, slack);
                flow.allow(Flow.COMMON, a, slack);
                flow.allow(Flow.SOURCE, a, Math.max(0, surplus[a]));
                flow.allow(a, Flow.SINK, Math.max(0, -surplus[a]));
                due += Math.max(0, surplus[a]);
            }
            return due - flow.mostThrough(Flow.SOURCE, Flow.SINK);
        }

        boolean canHave(int wants, int slack) {
            return ask(wants) == 0 && unmet(slack) == 0;
        }

        /** Each one that can't go round costs one word more, as a word from whom it is left to whom it is due is enough. */
        int lacks(int wants) {
            return ask(wants) + unmet(0);
        }

        int bestSet(int slack) {
            int best = 0;
            for (int set = 1; set < sets; set++) {
                if (isBetter(set, best) && canHave(set, slack)) {
                    best = set;
                }
            }
            return best;
        }

        private boolean isBetter(int set, int best) {
            if (values[set] != values[best]) {
                return values[set] > values[best];
            }
            return Integer.bitCount(set) < Integer.bitCount(best);
        }

        int bestValue(int slack) {
            return values[bestSet(slack)];
        }

        /** Room of one more helps only a set that lacks just one. */
        void markNear() {
            gainedFrom = values[bestSet(0)];
            for (int set = 0; set < sets; set++) {
                near[set] = values[set] > gainedFrom && lacks(set) == 1;
            }
        }

        /** As markNear() has left it. */
        int gainBy(int a, int b) {
            int best = gainedFrom;
            rooms[cell(a, b)]++;
            for (int set = 0; set < sets; set++) {
                if (near[set] && values[set] > best && canHave(set, 0)) {
                    best = values[set];
                }
            }
            rooms[cell(a, b)]--;
            return best - gainedFrom;
        }

        int greatestGain() {
            int found = NONE;
            int greatest = 0;
            for (int a = 0; a < village.people; a++) {
                for (int b = 0; b < village.people; b++) {
                    int gain = a == b ? 0 : gainBy(a, b);
                    if (gain > greatest) {
                        found = cell(a, b);
                        greatest = gain;
                    }
                }
            }
            return found;
        }

        int leastWord(Village v) {
            takeVillage(v);
            int bad = NONE;
            int good = MOST_WORD + 1;
            for (int turn = 0; turn <= MOST_WORD && good - bad > 1; turn++) {
                int middle = (good + bad) >> 1;
                setRooms(middle);
                if (canHave(sets - 1, 0)) {
                    good = middle;
                } else {
                    bad = middle;
                }
            }
            return good > MOST_WORD ? NONE : good;
        }
    }
}
