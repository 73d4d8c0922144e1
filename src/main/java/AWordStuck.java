/**
 * Words that were said with the mouth full, stuck in the gaps of people's teeth until they go off.
 * Every row is made in a constructor and used again: no call makes an object.
 */
public final class AWordStuck {
    public static final int NONE = -1, BAD = -2, STATE = -3, FULL = -4;
    public static final long NO = -4611686018427387904L;

    private static final int NOTHING = -11, OUTSIDE = -12, OTHER_SORT = -13, BELOW_ZERO = -14;

    private static final int PEOPLE = 5, KINDS = 6, NUMBERS = 10, GAPS = 10, WORDS = 16, FOODS = 10;
    private static final int LAST_HOUR = 999, DAY = 24, TEN_O_CLOCK = 1 << 10;
    private static final int THOUGHT_HOURS = 60, AGES = 61, SHAME_MOST = 9999;
    private static final int SEEDS_MOST = 20, ENOUGH_WORDS = 5;
    private static final int MAN = 0, TIGHT = 1, OLD = 2, FLOSSER = 3, BISHOP = 4, CHILD = 5;

    private static final int TEXTS = 6, TAPE = 160, PARTS = 3, TELLING_MOST = 99;
    private static final int STICKS = 0, LASTS = 1, SHAMES = 2;
    private static final int WORD = 0, FOOD = 1, HOUR = 2, NUMBER = 3, GAP = 4, STUCK = 5, NAMES = 6;
    private static final String FIRST_RULE = "sticks word + food * 3 ; lasts 5 ; shames 10 ;";

    private static final int SHEETS = 4, CELLS = 40, BYTES = 0, SHORTS = 1, INTS = 2, MISSING = -1;
    private static final int STEP = 4, SAYS = 0, FLOSSES = 1, KISSES = 2, AN_HOUR = 3;

    private final Text[] texts = new Text[TEXTS];
    private final Sheet[] sheets = new Sheet[SHEETS];
    private final Foresight foresight = new Foresight();
    private final Reader reader;
    private final Bite bite;
    private final World truth;
    private final World thought;
    private final World kept;
    private int textCount;
    private boolean hasImage;

    public AWordStuck() {
        for (int i = 0; i < TEXTS; i++) texts[i] = new Text();
        for (int i = 0; i < SHEETS; i++) sheets[i] = new Sheet();
        reader = new Reader(texts[0]);
        bite = new Bite(texts[0]);
        truth = new World(texts);
        thought = new World(texts);
        kept = new World(texts);
        for (int i = 0; i < FIRST_RULE.length(); i++) reader.put(FIRST_RULE.charAt(i));
        reader.read(texts[0]);
        textCount = 1;
    }

    // ---- people, gaps

    public int set(int what, int of, int v) {
        if (what == 0) return setHour(v);
        if (what == 1) return setChurch(v);
        if (what != 2 || !isOne(of) || !within(v, NUMBERS)) return BAD;
        Person one = truth.crowd[of];
        int was = one.number;
        one.number = v;
        return was;
    }

    private int setHour(int v) {
        if (v < 0 || v > LAST_HOUR) return BAD;
        int was = truth.hour;
        truth.hour = v;
        return was;
    }

    private int setChurch(int v) {
        if (!within(v, 1 << DAY)) return BAD;
        int was = truth.church;
        truth.church = v;
        return was;
    }

    public int man(int kind, int number) {
        if (!within(kind, KINDS) || !within(number, NUMBERS)) return BAD;
        if (truth.size >= PEOPLE) return FULL;
        return truth.welcome(kind, number);
    }

    public int told(int of, int what) {
        if (what == 0) return truth.hour;
        if (what == 1) return truth.church;
        if (!isOne(of)) return BAD;
        Person one = truth.crowd[of];
        if (what == 2) return one.number;
        if (what == 3) return one.kind;
        if (what == 4) return one.stuckInAll();
        if (what < 10 || what > 39) return BAD;
        return toldOfGap(of, what % 10, what / 10);
    }

    private int toldOfGap(int man, int gap, int side) {
        Person one = truth.crowd[man];
        if (side == 1 || one.word[gap] == NONE) return one.word[gap];
        if (side == 2) return one.age[gap];
        bite.look(truth, man, gap);
        return bite.holds(one.age[gap], truth.hour);
    }

    public int fill(int man, int gap, int w, int hours) {
        if (!isOne(man) || !within(gap, GAPS)) return BAD;
        if (w != NONE && !within(w, WORDS)) return BAD;
        if (hours < 0 || hours > LAST_HOUR) return BAD;
        Person one = truth.crowd[man];
        int was = one.word[gap];
        one.word[gap] = w;
        one.age[gap] = hours;
        return was;
    }

    // ---- texts

    public int feed(int letter) {
        if (!within(letter, 256)) return BAD;
        if (reader.size >= TAPE) return FULL;
        return reader.put(letter);
    }

    public int text() {
        if (textCount >= TEXTS) return FULL;
        int fault = reader.read(texts[textCount]);
        if (fault != NONE) return -100 - fault;
        textCount++;
        return textCount - 1;
    }

    public int force(int text) {
        if (!within(text, textCount)) return BAD;
        int was = truth.rule;
        truth.rule = text;
        return was;
    }

    // ---- saying, flossing, kissing, hours

    public int say(int man, int w, int food) {
        if (!isOne(man) || !within(w, WORDS) || !within(food, FOODS)) return BAD;
        return truth.utter(man, w, food);
    }

    public int floss(int man, int gap) {
        if (!isOne(man) || !within(gap, GAPS)) return BAD;
        return truth.crowd[man].empty(gap);
    }

    public int kiss(int man, int other) {
        if (!isOne(man) || !isOne(other) || man == other) return BAD;
        return truth.handOn(man, other);
    }

    public int live() {
        if (truth.hour >= LAST_HOUR) return STATE;
        return truth.pass(bite);
    }

    public int run(int n, int what) {
        if (!isSpan(n) || !within(what, 5)) return BAD;
        foresight.look(truth, bite, n);
        if (what == 0) return foresight.shame;
        if (what == 1) return foresight.offs;
        int first = foresight.first;
        if (!within(first, PEOPLE * GAPS)) return NONE;
        if (what == 2) return truth.crowd[first / GAPS].word[first % GAPS];
        return what == 3 ? first / GAPS : foresight.when[first];
    }

    public int off(int man, int gap, int n) {
        if (!isOne(man) || !within(gap, GAPS) || !isSpan(n)) return BAD;
        bite.look(truth, man, gap);
        return bite.goesOffIn(n);
    }

    // ---- what would be best

    public int foods(int man, int w, int gap) {
        if (!isOne(man) || !within(w, WORDS) || !within(gap, GAPS)) return BAD;
        if (truth.crowd[man].word[gap] != NONE) return 0;
        int bits = 0;
        for (int food = 0; food < FOODS; food++) {
            if (truth.takes(man, w, food) == gap) bits |= 1 << food;
        }
        return bits;
    }

    public int best(int n, int what) {
        if (!isSpan(n) || !within(what, 2)) return BAD;
        foresight.look(truth, bite, n);
        int best = foresight.dearest();
        if (what == 0) return best;
        return best == NONE ? foresight.shame : foresight.shame - foresight.cost[best];
    }

    public int few(int man, int n, int shame) {
        if (!isOne(man) || !isSpan(n) || shame < 0 || shame > SHAME_MOST) return BAD;
        foresight.look(truth, bite, n);
        return foresight.fewest(man, shame);
    }

    public int kissing(int n, int what) {
        if (!isSpan(n) || !within(what, 2)) return BAD;
        foresight.look(truth, bite, n);
        int best = NONE;
        int least = foresight.shame;
        for (int one = 0; one < truth.size; one++) {
            for (int other = 0; other < truth.size; other++) {
                if (one == other) continue;
                int shame = shameAfterKiss(one, other, n);
                if (shame < least) {
                    least = shame;
                    best = one * 10 + other;
                }
            }
        }
        return what == 0 ? best : least;
    }

    // No word's end hangs on another word, so what does not come over costs what it did.
    private int shameAfterKiss(int one, int other, int n) {
        int shame = foresight.shame;
        for (int gap = 0; gap < GAPS; gap++) {
            int word = truth.crowd[one].word[gap];
            if (word == NONE || truth.crowd[other].word[gap] != NONE) continue;
            bite.look(truth, other, gap);
            bite.names[WORD] = word;
            bite.age = 0;
            int later = bite.goesOffIn(n);
            if (later != NONE) shame += bite.bears(later, truth.isChurchIn(later));
            shame -= foresight.cost[one * GAPS + gap];
        }
        return shame;
    }

    public int church(int n, int what) {
        if (!isSpan(n) || !within(what, 2)) return BAD;
        foresight.look(truth, bite, n);
        foresight.lookAtChurch(truth, bite);
        int best = 0;
        for (int i = 1; i < DAY; i++) {
            if (foresight.byChurch[i] < foresight.byChurch[best]) best = i;
        }
        return what == 0 ? best : foresight.byChurch[best];
    }

    public int plan(int sheet, int what) {
        if (!within(sheet, SHEETS) || !within(what, 2)) return BAD;
        Sheet rows = sheets[sheet];
        if (rows.isMissing()) return NOTHING;
        if (!isPlan(rows)) return BAD;
        thought.become(truth);
        thought.shame = 0;
        for (int i = 0; i + STEP <= rows.size; i += STEP) {
            take(rows.row[i], rows.row[i + 1], rows.row[i + 2], rows.row[i + 3]);
        }
        return what == 0 ? thought.shame : thought.stuckInAll();
    }

    private boolean isPlan(Sheet rows) {
        if (rows.size % STEP != 0) return false;
        for (int i = 0; i + STEP <= rows.size; i += STEP) {
            if (!isStep(rows.row[i], rows.row[i + 1], rows.row[i + 2], rows.row[i + 3])) return false;
        }
        return true;
    }

    private boolean isStep(int act, int who, int first, int second) {
        if (act == AN_HOUR) return who == 0 && first == 0 && second == 0;
        if (!isOne(who)) return false;
        if (act == SAYS) return within(first, WORDS) && within(second, FOODS);
        if (act == FLOSSES) return within(first, GAPS) && second == 0;
        return act == KISSES && isOne(first) && first != who && second == 0;
    }

    private void take(int act, int who, int first, int second) {
        if (act == SAYS) thought.utter(who, first, second);
        else if (act == FLOSSES) thought.crowd[who].empty(first);
        else if (act == KISSES) thought.handOn(who, first);
        else thought.pass(bite);
    }

    // ---- hours that were told

    public int tells(int sheet, int man, int what) {
        if (!within(sheet, SHEETS) || !isOne(man)) return BAD;
        if (what < 0 || what > 39 || what > 3 && what < 10) return BAD;
        Sheet hours = sheets[sheet];
        if (hours.isMissing()) return NOTHING;
        if (hours.size != GAPS) return BAD;
        if (what == 0) return firstOtherwise(hours, man, 0, 0);
        if (what <= 3) return allAsTold(hours, man, what);
        int gap = what % 10;
        bite.look(truth, man, gap);
        if (bite.names[WORD] == NONE) return what >= 30 ? NONE : 0;
        return what < 20 ? wordsAsTold(hours.row[gap]) : agesAsTold(hours.row[gap], what >= 30);
    }

    /** The first GAP that is not as told, were one's KIND (what 1), NUMBER (2), the TEXT (3) another. */
    private int firstOtherwise(Sheet hours, int man, int what, int other) {
        for (int gap = 0; gap < GAPS; gap++) {
            bite.look(truth, man, gap);
            if (what == 1) bite.kind = other;
            if (what == 2) bite.names[NUMBER] = other;
            if (what == 3 && within(other, textCount)) bite.text = texts[other];
            if (bite.goesOffIn(THOUGHT_HOURS) != hours.row[gap]) return gap;
        }
        return NONE;
    }

    private int allAsTold(Sheet hours, int man, int what) {
        int many = what == 1 ? KINDS : what == 2 ? NUMBERS : textCount;
        int bits = 0;
        for (int i = 0; i < many; i++) {
            if (firstOtherwise(hours, man, what, i) == NONE) bits |= 1 << i;
        }
        return bits;
    }

    private int wordsAsTold(int hour) {
        int bits = 0;
        for (int word = 0; word < WORDS; word++) {
            bite.names[WORD] = word;
            if (bite.goesOffIn(THOUGHT_HOURS) == hour) bits |= 1 << word;
        }
        return bits;
    }

    private int agesAsTold(int hour, boolean least) {
        int many = 0;
        for (int age = 0; age < AGES; age++) {
            bite.age = age;
            if (bite.goesOffIn(THOUGHT_HOURS) != hour) continue;
            if (least) return age;
            many++;
        }
        return least ? NONE : many;
    }

    public int film(int sheet, int man) {
        if (!within(sheet, SHEETS) || !isOne(man)) return BAD;
        sheets[sheet].become(BYTES, GAPS);
        for (int gap = 0; gap < GAPS; gap++) {
            bite.look(truth, man, gap);
            sheets[sheet].put(gap, bite.goesOffIn(THOUGHT_HOURS));
        }
        return GAPS;
    }

    public int drawn(int man, int seed, int n) {
        if (!isOne(man) || n < 0 || n > WORDS) return BAD;
        return stuckByDraw(man, seed, n);
    }

    private int stuckByDraw(int man, int seed, int n) {
        thought.become(truth);
        int stuck = 0;
        int z = seed;
        for (int word = 0; word < n; word++) {
            z = z * 1103515245 + 12345;
            if (thought.utter(man, word, (z >>> 9) % FOODS) != NONE) stuck++;
        }
        return stuck;
    }

    public long chance(int man, int seed, int n, int part) {
        if (!isOne(man) || n < 1 || n > SEEDS_MOST || !within(part, 2)) return NO;
        int hits = 0;
        for (int i = 0; i < n; i++) {
            if (stuckByDraw(man, seed + i, WORDS) >= ENOUGH_WORDS) hits++;
        }
        int shared = commonDivisor(hits, n);
        return (part == 0 ? hits : n) / shared;
    }

    private static int commonDivisor(int hits, int n) {
        for (int d = n; d > 1; d--) {
            if (hits % d == 0 && n % d == 0) return d;
        }
        return 1;
    }

    public int image() {
        kept.become(truth);
        hasImage = true;
        return truth.size;
    }

    public int back() {
        if (!hasImage) return STATE;
        truth.become(kept);
        return truth.size;
    }

    public int count(int what) {
        switch (what) {
            case 0: return truth.size;
            case 1: return truth.stuckInAll();
            case 2: return truth.shame;
            case 3: return textCount;
            case 4: return reader.size;
            case 5: return truth.rule;
            default: return BAD;
        }
    }

    // ---- the host

    public int sheet(int sheet, int sort, int n) {
        if (!within(sheet, SHEETS) || sort < MISSING || sort > INTS) return BAD;
        if (sort != MISSING && n > CELLS) return BAD;
        if (sort != MISSING && n < 0) return BELOW_ZERO;
        sheets[sheet].become(sort, sort == MISSING ? 0 : n);
        return 1;
    }

    public int cell(int sheet, int i, int v) {
        if (!within(sheet, SHEETS)) return BAD;
        if (sheets[sheet].isMissing()) return NOTHING;
        if (!within(i, sheets[sheet].size)) return OUTSIDE;
        sheets[sheet].put(i, v);
        return 1;
    }

    public int copy(int sheet, int i, int other, int j, int n) {
        if (!within(sheet, SHEETS) || !within(other, SHEETS)) return BAD;
        Sheet from = sheets[sheet];
        Sheet to = sheets[other];
        if (from.isMissing() || to.isMissing()) return NOTHING;
        if (from.sort != to.sort) return OTHER_SORT;
        if (!from.holds(i, n) || !to.holds(j, n)) return OUTSIDE;
        System.arraycopy(from.row, i, to.row, j, n);
        return n;
    }

    public int people(int sheet, int sort, int from, int n) {
        if (!within(sheet, SHEETS) || !within(sort, INTS + 1) || n < 0 || n > PEOPLE) return BAD;
        Sheet pairs = sheets[sheet];
        if (pairs.isMissing()) return NOTHING;
        if (pairs.sort != sort) return OTHER_SORT;
        int came = 0;
        for (int i = 0; i < n; i++) {
            int at = from + 2 * i;
            if (!pairs.holds(at, 2)) return OUTSIDE;
            if (man(pairs.row[at], pairs.row[at + 1]) >= 0) came++;
        }
        return came;
    }

    public int taken(int man, int k) {
        if (!within(k, KINDS)) return BAD;
        if (!isOne(man)) return NOTHING;
        Person one = truth.crowd[man];
        return Kind.isUnder(one.kind, k) ? one.number : OTHER_SORT;
    }

    private boolean isOne(int man) {
        return within(man, truth.size);
    }

    private static boolean isSpan(int n) {
        return n >= 0 && n <= THOUGHT_HOURS;
    }

    private static boolean within(int i, int size) {
        return i >= 0 && i < size;
    }

    /** What the kinds of people make of what a TEXT tells. */
    private static final class Kind {
        static int takes(int kind, int v) {
            switch (kind) {
                case TIGHT: return v % 10 / 2;
                case FLOSSER: return v % 2 != 0 ? NONE : v % 10 / 2;
                case BISHOP: return 9 - v % 10;
                case CHILD: return v / 10;
                default: return v % 10;
            }
        }

        static int holds(int kind, int number, int v) {
            return Math.max(1, heldFor(kind, number, v));
        }

        private static int heldFor(int kind, int number, int v) {
            switch (kind) {
                case TIGHT: return v + number;
                case OLD: return v / 2;
                case FLOSSER: return v + number - 3;
                case BISHOP: return v / 2;
                case CHILD: return Math.min(v, 9);
                default: return v;
            }
        }

        static int bears(int kind, int number, int v, boolean atChurch) {
            int man = atChurch ? 2 * v : v;
            switch (kind) {
                case OLD: return man + number;
                case BISHOP: return atChurch ? 3 * (man + number) : man + number;
                case CHILD: return 0;
                default: return man;
            }
        }

        static boolean isUnder(int kind, int above) {
            int k = kind;
            for (int i = 0; i < KINDS && k != NONE; i++) {
                if (k == above) return true;
                k = above(k);
            }
            return false;
        }

        private static int above(int kind) {
            switch (kind) {
                case TIGHT: return MAN;
                case OLD: return MAN;
                case FLOSSER: return TIGHT;
                case BISHOP: return OLD;
                case CHILD: return MAN;
                default: return NONE;
            }
        }
    }

    /** One of PEOPLE. The age of a WORD says for how many HOURS it has been STUCK. */
    private static final class Person {
        private int kind;
        private int number;
        private final int[] word = new int[GAPS];
        private final int[] age = new int[GAPS];

        void become(Person other) {
            kind = other.kind;
            number = other.number;
            System.arraycopy(other.word, 0, word, 0, GAPS);
            System.arraycopy(other.age, 0, age, 0, GAPS);
        }

        int empty(int gap) {
            int was = word[gap];
            word[gap] = NONE;
            return was;
        }

        int stuckInAll() {
            int stuck = 0;
            for (int gap = 0; gap < GAPS; gap++) {
                if (word[gap] != NONE) stuck++;
            }
            return stuck;
        }
    }

    /** All that time changes: there is the true one, one that is thought of, and THE IMAGE. */
    private static final class World {
        private final Text[] texts;
        private final Person[] crowd = new Person[PEOPLE];
        private final int[] names = new int[NAMES];
        private int size;
        private int hour;
        private int church = TEN_O_CLOCK;
        private int shame;
        private int rule;

        World(Text[] texts) {
            this.texts = texts;
            for (int i = 0; i < PEOPLE; i++) crowd[i] = new Person();
        }

        void become(World other) {
            size = other.size;
            hour = other.hour;
            church = other.church;
            shame = other.shame;
            rule = other.rule;
            for (int i = 0; i < size; i++) crowd[i].become(other.crowd[i]);
        }

        int welcome(int kind, int number) {
            Person one = crowd[size];
            one.kind = kind;
            one.number = number;
            for (int gap = 0; gap < GAPS; gap++) one.word[gap] = NONE;
            size++;
            return size - 1;
        }

        int takes(int man, int word, int food) {
            Person one = crowd[man];
            names[WORD] = word;
            names[FOOD] = food;
            names[HOUR] = hour;
            names[NUMBER] = one.number;
            names[GAP] = 0;
            names[STUCK] = one.stuckInAll();
            return Kind.takes(one.kind, texts[rule].tell(STICKS, names));
        }

        int utter(int man, int word, int food) {
            int gap = takes(man, word, food);
            Person one = crowd[man];
            if (!within(gap, GAPS) || one.word[gap] != NONE) return NONE;
            one.word[gap] = word;
            one.age[gap] = 0;
            return gap;
        }

        int handOn(int man, int other) {
            Person one = crowd[man];
            Person another = crowd[other];
            int came = 0;
            for (int gap = 0; gap < GAPS; gap++) {
                if (one.word[gap] == NONE || another.word[gap] != NONE) continue;
                another.word[gap] = one.empty(gap);
                another.age[gap] = 0;
                came++;
            }
            return came;
        }

        /** AN HOUR: how many GO OFF. */
        int pass(Bite bite) {
            int offs = 0;
            for (int man = 0; man < size; man++) {
                for (int gap = 0; gap < GAPS; gap++) {
                    bite.look(this, man, gap);
                    if (bite.goesOffIn(1) == NONE) {
                        crowd[man].age[gap]++;
                    } else {
                        shame += bite.bears(0, isChurchIn(0));
                        crowd[man].empty(gap);
                        offs++;
                    }
                }
            }
            hour++;
            return offs;
        }

        int stuckInAll() {
            int stuck = 0;
            for (int man = 0; man < size; man++) stuck += crowd[man].stuckInAll();
            return stuck;
        }

        boolean isChurchIn(int later) {
            return (church >>> (hour + later) % DAY & 1) != 0;
        }
    }

    /** What is in a GAP, as it is or (with one of its fields or names changed) as it might be. */
    private static final class Bite {
        private final int[] names = new int[NAMES];
        private Text text;
        private int kind;
        private int age;
        private int hour;

        Bite(Text text) {
            this.text = text;
        }

        void look(World world, int man, int gap) {
            Person one = world.crowd[man];
            text = world.texts[world.rule];
            kind = one.kind;
            age = one.age[gap];
            hour = world.hour;
            names[WORD] = one.word[gap];
            names[FOOD] = 0;
            names[NUMBER] = one.number;
            names[GAP] = gap;
        }

        /** How long one HOLDS it, STUCK for so many HOURS, at that HOUR. */
        int holds(int stuck, int now) {
            names[STUCK] = stuck;
            names[HOUR] = now;
            return Kind.holds(kind, names[NUMBER], text.tell(LASTS, names));
        }

        /** In which of n HOURS it goes off. */
        int goesOffIn(int n) {
            if (names[WORD] == NONE) return NONE;
            for (int i = 0; i < n; i++) {
                if (age + i + 1 >= holds(age + i + 1, hour + i)) return i;
            }
            return NONE;
        }

        /** How bad it is, if it goes off in that one of the HOURS. */
        int bears(int later, boolean atChurch) {
            names[STUCK] = age + later + 1;
            names[HOUR] = hour + later;
            return Kind.bears(kind, names[NUMBER], text.tell(SHAMES, names), atChurch);
        }
    }

    /** What n HOURS bring: the rows go by 10 times the one, and the GAP. */
    private static final class Foresight {
        private final int[] when = new int[PEOPLE * GAPS];
        private final int[] cost = new int[PEOPLE * GAPS];
        private final int[] byChurch = new int[DAY];
        private final int[] saved = new int[1 << GAPS];
        private int shame;
        private int offs;
        private int first;

        void look(World world, Bite bite, int n) {
            shame = 0;
            offs = 0;
            first = NONE;
            for (int at = 0; at < PEOPLE * GAPS; at++) {
                when[at] = NONE;
                cost[at] = 0;
                if (at / GAPS >= world.size) continue;
                bite.look(world, at / GAPS, at % GAPS);
                when[at] = bite.goesOffIn(n);
                if (when[at] != NONE) note(at, bite.bears(when[at], world.isChurchIn(when[at])));
            }
        }

        private void note(int at, int bad) {
            cost[at] = bad;
            shame += bad;
            offs++;
            if (first == NONE || when[at] < when[first]) first = at;
        }

        /** SHAME for each hour of the day that CHURCH alone might be, after look(). */
        void lookAtChurch(World world, Bite bite) {
            int elsewhere = 0;
            for (int i = 0; i < DAY; i++) byChurch[i] = 0;
            for (int at = 0; at < PEOPLE * GAPS; at++) {
                if (when[at] == NONE) continue;
                bite.look(world, at / GAPS, at % GAPS);
                int bad = bite.bears(when[at], false);
                elsewhere += bad;
                byChurch[(world.hour + when[at]) % DAY] += bite.bears(when[at], true) - bad;
            }
            for (int i = 0; i < DAY; i++) byChurch[i] += elsewhere;
        }

        int dearest() {
            int best = NONE;
            int most = 0;
            for (int at = 0; at < PEOPLE * GAPS; at++) {
                if (cost[at] > most) {
                    most = cost[at];
                    best = at;
                }
            }
            return best;
        }

        /** The fewest GAPS of one, as bits, without which no more than that SHAME is left. */
        int fewest(int man, int enough) {
            for (int gap = 0; gap < GAPS; gap++) {
                for (int bits = 0; bits < 1 << gap; bits++) {
                    saved[bits | 1 << gap] = saved[bits] + cost[man * GAPS + gap];
                }
            }
            int best = NONE;
            for (int bits = 0; bits < 1 << GAPS; bits++) {
                if (shame - saved[bits] > enough) continue;
                if (best == NONE || Integer.bitCount(bits) < Integer.bitCount(best)) best = bits;
            }
            return best;
        }
    }

    /** A TEXT: its three parts, one behind the other, as steps of a machine with a stack. */
    private static final class Text {
        // A step of 0 or more puts that NUMBER on the stack, one of -1 .. -6 what a NAME stands for.
        private static final int MINUS = -7, DENY = -8;
        private static final int TIMES = -9, PLUS = -10, LESS = -11, UNDER = -12, SAME = -13, BOTH = -14, EITHER = -15;
        // On each of six levels (five can be open) one value waits for each of five signs; one is in hand.
        private static final int STACK = 31;

        private final int[] steps = new int[TAPE];
        private final int[] ends = new int[PARTS];
        private final int[] stack = new int[STACK];
        private int size;

        void clear() {
            size = 0;
        }

        void add(int step) {
            if (size >= TAPE) return;
            steps[size] = step;
            size++;
        }

        void endPart(int part) {
            ends[part] = size;
        }

        int tell(int part, int[] names) {
            int top = 0;
            for (int i = part == STICKS ? 0 : ends[part - 1]; i < ends[part]; i++) {
                if (steps[i] > MINUS) top = put(steps[i], top, names);
                else top = join(steps[i], top);
            }
            return Math.max(0, Math.min(TELLING_MOST, stack[0]));
        }

        private int put(int step, int top, int[] names) {
            if (top >= STACK) return top;
            stack[top] = step >= 0 ? step : names[-1 - step];
            return top + 1;
        }

        /** Puts what a sign makes of the one or two values on top in their stead. */
        private int join(int step, int top) {
            int at = step >= DENY ? top - 1 : top - 2;
            if (at < 0) return top;
            int a = stack[at];
            int b = stack[top - 1];
            switch (step) {
                case MINUS: stack[at] = -b; break;
                case DENY: stack[at] = b == 0 ? 1 : 0; break;
                case TIMES: stack[at] = a * b; break;
                case PLUS: stack[at] = a + b; break;
                case LESS: stack[at] = a - b; break;
                case UNDER: stack[at] = a < b ? 1 : 0; break;
                case SAME: stack[at] = a == b ? 1 : 0; break;
                case BOTH: stack[at] = a != 0 && b != 0 ? 1 : 0; break;
                default: stack[at] = a != 0 || b != 0 ? 1 : 0; break;
            }
            return at + 1;
        }
    }

    /** THE TAPE, and the reading of it, with one TOKEN seen ahead. */
    private static final class Reader {
        private static final int OPEN_MOST = 5, DIGITS_MOST = 4, KNOWN = 12;
        // A TOKEN is one of these, or a sign by its byte. Names come first among the known words.
        private static final int END = 0, WRONG = 1, NUMERAL = 2, NAME = 3, KEY = 4, OR = 7, AND = 8, NOT = 9;

        private final int[] tape = new int[TAPE];
        private int size;
        private int next;
        private int start;
        private int token;
        private int value;
        private int fault;
        private Text text;

        Reader(Text text) {
            this.text = text;
        }

        int put(int letter) {
            if (size < TAPE) {
                tape[size] = letter;
                size++;
            }
            return size;
        }

        /** Reads THE TAPE into a TEXT and empties it: the place of the FAULT, or NONE. */
        int read(Text into) {
            text = into;
            text.clear();
            fault = NONE;
            next = 0;
            advance();
            for (int part = 0; part < PARTS; part++) {
                expect(KEY + part);
                either(0);
                expect(';');
                text.endPart(part);
            }
            if (!at(END)) fail();
            size = 0;
            return fault;
        }

        private boolean at(int kind) {
            return fault == NONE && token == kind;
        }

        private void fail() {
            if (fault == NONE) fault = start;
        }

        private void expect(int kind) {
            if (at(kind)) advance();
            else fail();
        }

        private void either(int open) {
            both(open);
            for (int i = 0; i < TAPE && at(OR); i++) {
                advance();
                both(open);
                text.add(Text.EITHER);
            }
        }

        private void both(int open) {
            denial(open);
            for (int i = 0; i < TAPE && at(AND); i++) {
                advance();
                denial(open);
                text.add(Text.BOTH);
            }
        }

        private void denial(int open) {
            int inner = openAll(NOT, open);
            sum(inner);
            if (at('<') || at('=')) {
                int step = token == '<' ? Text.UNDER : Text.SAME;
                advance();
                sum(inner);
                text.add(step);
            }
            for (int i = open; i < inner; i++) text.add(Text.DENY);
        }

        private void sum(int open) {
            term(open);
            for (int i = 0; i < TAPE && (at('+') || at('-')); i++) {
                int step = token == '+' ? Text.PLUS : Text.LESS;
                advance();
                term(open);
                text.add(step);
            }
        }

        private void term(int open) {
            one(open);
            for (int i = 0; i < TAPE && at('*'); i++) {
                advance();
                one(open);
                text.add(Text.TIMES);
            }
        }

        private void one(int open) {
            int inner = openAll('-', open);
            if (at(NUMERAL) || at(NAME)) {
                text.add(token == NUMERAL ? value : -1 - value);
                advance();
            } else if (at('(') && inner < OPEN_MOST) {
                advance();
                either(inner + 1);
                expect(')');
            } else {
                fail();
            }
            for (int i = open; i < inner; i++) text.add(Text.MINUS);
        }

        /** Goes past all of a TOKEN that stand there, each of which opens one more: how many are open. */
        private int openAll(int kind, int open) {
            int inner = open;
            while (inner < OPEN_MOST && at(kind)) {
                advance();
                inner++;
            }
            if (at(kind)) fail();
            return inner;
        }

        private void advance() {
            while (next < size && (tape[next] == ' ' || tape[next] == '\n')) next++;
            start = next;
            if (next >= size) token = END;
            else if (isLetter(tape[next])) readWord();
            else if (isDigit(tape[next])) readNumber();
            else readSign();
        }

        private void readWord() {
            while (next < size && isLetter(tape[next])) next++;
            token = WRONG;
            for (int i = 0; i < KNOWN; i++) {
                if (!stands(known(i))) continue;
                token = i < NAMES ? NAME : KEY + i - NAMES;
                value = i;
            }
        }

        private boolean stands(String word) {
            if (word.length() != next - start) return false;
            for (int i = 0; i < word.length(); i++) {
                if (tape[start + i] != word.charAt(i)) return false;
            }
            return true;
        }

        private static String known(int i) {
            switch (i) {
                case WORD: return "word";
                case FOOD: return "food";
                case HOUR: return "hour";
                case NUMBER: return "number";
                case GAP: return "gap";
                case STUCK: return "stuck";
                case NAMES: return "sticks";
                case NAMES + LASTS: return "lasts";
                case NAMES + SHAMES: return "shames";
                case NAMES + 3: return "or";
                case NAMES + 4: return "and";
                default: return "not";
            }
        }

        private void readNumber() {
            value = 0;
            while (next < size && isDigit(tape[next])) {
                value = value * 10 + tape[next] - '0';
                next++;
            }
            token = next - start > DIGITS_MOST ? WRONG : NUMERAL;
        }

        private void readSign() {
            int c = tape[next];
            boolean sign = c == '(' || c == ')' || c == ';' || c == '+' || c == '-' || c == '*' || c == '<' || c == '=';
            token = sign ? c : WRONG;
            next++;
        }

        private static boolean isLetter(int c) {
            return c >= 'a' && c <= 'z';
        }

        private static boolean isDigit(int c) {
            return c >= '0' && c <= '9';
        }
    }

    /** A row of numbers of a sort, or missing. */
    private static final class Sheet {
        private final int[] row = new int[CELLS];
        private int sort = MISSING;
        private int size;

        boolean isMissing() {
            return sort == MISSING;
        }

        void become(int kind, int n) {
            sort = kind;
            size = n;
            for (int i = 0; i < CELLS; i++) row[i] = 0;
        }

        void put(int i, int v) {
            row[i] = sort == BYTES ? (byte) v : sort == SHORTS ? (short) v : v;
        }

        boolean holds(int from, int n) {
            return from >= 0 && n >= 0 && from <= size && n <= size - from;
        }
    }
}
