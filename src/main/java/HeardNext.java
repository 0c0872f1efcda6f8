import java.util.Arrays;

/**
 * A terrace in which each wireless takes what was on next door an hour back.
 * Words in capitals are those of the document; every row is made once, with the
 * object that uses it, because no call may make more than a run has room for.
 */
public final class HeardNext {
    public static final int NONE = -1;

    private static final int NOTHING = -2;

    private static final int MOST_BYTES = 2000;
    private static final int FED_BYTES = 20;
    private static final int MOST_TOKENS = 400;
    private static final int MOST_HOUSES = 10;
    private static final int MOST_SENDS = 8;
    private static final int MOST_IFS = 4;
    private static final int MOST_DEPTH = 6;
    private static final int MOST_HOURS = 72;
    private static final int MOST_UNDONE = 40;
    private static final int MOST_TOLD = 20;
    private static final int MOST_SEEDS = 20;
    private static final int MOST_TIMES = 3;
    private static final int SLOTS = 3;
    private static final int DAY_HOURS = 24;
    private static final int CHANGE_HOURS = 48;
    private static final int PARTS = 8;
    private static final int PROGRAMMES = 256;
    private static final int ALL_PARTS = 255;

    private static final int SYNTAX = 1;
    private static final int ROOM = 2;
    private static final int TWICE = 3;
    private static final int WRONG = 5;

    // The words in quotes; a TOKEN's kind is its place here, so the order is that of the kinds below.
    private static final String WORDS =
        "house sends keeps turns hums dies grief seed if then else door hour day part wants age parts many had ";
    private static final int WORD_HOUSE = 0;
    private static final int WORD_SENDS = 1;
    private static final int WORD_KEEPS = 2;
    private static final int WORD_TURNS = 3;
    private static final int WORD_HUMS = 4;
    private static final int WORD_DIES = 5;
    private static final int WORD_GRIEF = 6;
    private static final int WORD_SEED = 7;
    private static final int WORD_IF = 8;
    private static final int WORD_THEN = 9;
    private static final int WORD_ELSE = 10;
    private static final int WORD_DOOR = 11;
    private static final int WORD_HAD = 19;
    private static final int NAME = 20;
    private static final int INT = 21;
    private static final int END = 22;
    private static final int NO_TOKEN = 23;

    // A SIGN's kind is SIGN and its place here.
    private static final String SIGNS = ";=+-*/<()";
    private static final int SIGN = 24;
    private static final int SIGN_ENDS = SIGN;
    private static final int SIGN_IS = SIGN + 1;
    private static final int SIGN_PLUS = SIGN + 2;
    private static final int SIGN_MINUS = SIGN + 3;
    private static final int SIGN_TIMES = SIGN + 4;
    private static final int SIGN_OVER = SIGN + 5;
    private static final int SIGN_LESS = SIGN + 6;
    private static final int SIGN_OPENS = SIGN + 7;
    private static final int SIGN_CLOSES = SIGN + 8;

    // LAWS and VARS, each in the order of its words.
    private static final int KEEPS = 0;
    private static final int TURNS = 1;
    private static final int HUMS = 2;
    private static final int DIES = 3;
    private static final int LAWS = 4;
    private static final int DOOR = 0;
    private static final int HOUR = 1;
    private static final int DAY = 2;
    private static final int PART = 3;
    private static final int WANTS = 4;
    private static final int AGE = 5;
    private static final int IN_PARTS = 6;
    private static final int MANY = 7;
    private static final int HAD = 8;
    private static final int VARS = 9;

    private final byte[] tape = new byte[MOST_BYTES];
    private int tapeLength;
    private int faultPlace = NONE;
    private Terrace terrace = new Terrace();
    private Terrace draft = new Terrace();
    private final Reader reader = new Reader(draft);
    private final Life life = new Life();
    private final Life dream = new Life();
    private final Past past = new Past();
    private final Life[] slots = new Life[SLOTS];
    private int held;
    private final Air air = new Air(terrace.laws);
    private final Ways ways = new Ways();
    private final Told told = new Told();
    private final int[] taken = new int[PROGRAMMES];
    private final int[] sums = new int[PROGRAMMES];
    private final int[] chosen = new int[MOST_TIMES];

    public HeardNext() {
        for (int i = 0; i < SLOTS; i++) {
            slots[i] = new Life();
        }
        terrace.empty();
        life.begin(terrace);
    }

    // ---- the tape and its text

    public int feed(int a, int b, int c, int d, int e) {
        if (tapeLength > MOST_BYTES - FED_BYTES) {
            return NONE;
        }
        addBytes(a);
        addBytes(b);
        addBytes(c);
        addBytes(d);
        addBytes(e);
        return tapeLength;
    }

    private void addBytes(int four) {
        for (int shift = 24; shift >= 0; shift -= 8) {
            if (tapeLength < MOST_BYTES) {
                tape[tapeLength] = (byte) (four >>> shift);
                tapeLength++;
            }
        }
    }

    public int back(int n) {
        if (n < 0 || n > tapeLength) {
            return NONE;
        }
        tapeLength -= n;
        return tapeLength;
    }

    public int read() {
        int fault = reader.readInto(draft, tape, tapeLength);
        tapeLength = 0;
        faultPlace = reader.faultPlace;
        if (fault == 0) {
            beginAnew();
        }
        return fault;
    }

    private void beginAnew() {
        Terrace earlier = terrace;
        terrace = draft;
        draft = earlier;
        life.begin(terrace);
        past.size = 0;
        told.size = 0;
        held = 0;
        ways.filled = 0;
    }

    public int place() {
        return faultPlace;
    }

    // ---- what is, and what is done by hand

    private boolean isHouse(int house) {
        return house >= 0 && house < terrace.houses && house < MOST_HOUSES;
    }

    private static boolean isProgramme(int programme) {
        return programme >= 0 && programme < PROGRAMMES;
    }

    private static boolean isWithin(int n, int least, int most) {
        return n >= least && n <= most;
    }

    public int house(int house, int what) {
        if (!isHouse(house)) {
            return NONE;
        }
        switch (what) {
            case 0: return life.wanted[house];
            case 1: return life.age[house];
            case 2: return life.heard[house];
            case 3: return life.had[house];
            case 4: return life.isOn(house) ? 1 : 0;
            case 5: return life.grief[house];
            case 6: return life.who[house];
            default: return lawNow(house, what);
        }
    }

    private int lawNow(int house, int what) {
        air.standAt(terrace, life, house, life.hour);
        switch (what) {
            case 7: return air.turning(house == 0 ? 0 : Integer.bitCount(life.heard[house - 1]));
            case 8: return air.humming();
            case 9: return air.dying();
            default: return NONE;
        }
    }

    public int passed(int house, int programme) {
        if (!isHouse(house) || !isProgramme(programme)) {
            return NONE;
        }
        air.standAt(terrace, life, house, life.hour);
        return air.passing(programme);
    }

    /** Whatever is done by hand or by the hours goes through here first: it can be undone, and ways are no longer as known. */
    private void beforeDoing() {
        past.keep(life);
        ways.filled = 0;
    }

    public boolean turn(int house, boolean on) {
        if (!isHouse(house) || life.isOn(house) == on) {
            return false;
        }
        beforeDoing();
        life.on ^= 1 << house;
        return true;
    }

    public boolean send(int programme) {
        if (!isProgramme(programme) || terrace.houses == 0) {
            return false;
        }
        beforeDoing();
        life.byHand = programme;
        return true;
    }

    public int carry(int house, int to) {
        if (!isHouse(house) || !isHouse(to) || house == to) {
            return NONE;
        }
        beforeDoing();
        life.hear(to, life.heard[house]);
        return life.heard[to];
    }

    public boolean change(int house, int other) {
        if (!isHouse(house) || !isHouse(other) || house == other) {
            return false;
        }
        beforeDoing();
        life.swap(house, other);
        return true;
    }

    public int hours(int n) {
        if (!isWithin(n, 0, MOST_HOURS)) {
            return NONE;
        }
        if (n > 0) {
            beforeDoing();
        }
        for (int i = 0; i < n; i++) {
            life.goOn(terrace, air, true, terrace.seed);
        }
        return life.hour;
    }

    public boolean undo() {
        ways.filled = 0;
        return past.giveBack(life);
    }

    // ---- what comes

    private int[] comingTo(int house) {
        return ways.rowOf(house, terrace, life, air);
    }

    /** What COMES of all PARTS, SENT so many HOURS from now. */
    private int allComing(int house, int later) {
        if (life.firstDeaf(house) != NOTHING) {
            return 0;
        }
        int programme = ALL_PARTS;
        for (int h = 1; h <= house; h++) {
            air.standAt(terrace, life, h, life.hour + later + h);
            programme = air.passing(programme);
        }
        return programme;
    }

    public int comes(int house, int programme) {
        if (!isHouse(house) || !isProgramme(programme)) {
            return NONE;
        }
        return comingTo(house)[programme];
    }

    public int last(int programme) {
        if (!isProgramme(programme)) {
            return NONE;
        }
        for (int h = terrace.houses - 1; h >= 0; h--) {
            int[] row = comingTo(h);
            if (row[programme] != row[0]) {
                return h;
            }
        }
        return NOTHING;
    }

    public int sendFor(int house) {
        if (!isHouse(house)) {
            return NONE;
        }
        int[] row = comingTo(house);
        int wanted = life.wanted[house];
        int best = NOTHING;
        int fewest = PARTS + 1;
        for (int x = 0; x < PROGRAMMES; x++) {
            if ((row[x] & wanted) == wanted && Integer.bitCount(x) < fewest) {
                best = x;
                fewest = Integer.bitCount(x);
            }
        }
        return best;
    }

    public int apart(int house) {
        if (!isHouse(house)) {
            return NONE;
        }
        int[] row = comingTo(house);
        Arrays.fill(sums, 0);
        int unlike = 0;
        for (int x = 0; x < PROGRAMMES; x++) {
            int come = row[x] & ALL_PARTS;
            if (sums[come] == 0) {
                unlike++;
            }
            sums[come]++;
        }
        return unlike;
    }

    public int code(int house, int d, int i) {
        if (!isHouse(house) || !isWithin(d, 1, PARTS) || i < NONE) {
            return NONE;
        }
        int size = takeCode(comingTo(house), d);
        if (i == NONE) {
            return size;
        }
        return i < size ? taken[i] : NONE;
    }

    private int takeCode(int[] row, int d) {
        int size = 0;
        for (int x = 0; x < PROGRAMMES; x++) {
            boolean unlike = true;
            for (int j = 0; j < size && unlike; j++) {
                unlike = Integer.bitCount(row[x] ^ row[taken[j]]) >= d;
            }
            if (unlike) {
                taken[size] = x;
                size++;
            }
        }
        return size;
    }

    public int lost(int house) {
        if (!isHouse(house)) {
            return NONE;
        }
        int[] row = comingTo(house);
        int parts = 0;
        for (int p = 0; p < PARTS; p++) {
            if (row[1 << p] == row[0]) {
                parts |= 1 << p;
            }
        }
        return parts;
    }

    public int between(int house, int programme, int other) {
        if (!isHouse(house) || !isProgramme(programme) || !isProgramme(other)) {
            return NONE;
        }
        int[] row = comingTo(house);
        return Integer.bitCount(row[programme] ^ row[other]);
    }

    public int widest(int house, int what) {
        if (!isHouse(house) || !isWithin(what, 0, 2)) {
            return NONE;
        }
        int[] row = comingTo(house);
        int most = NONE;
        int lesser = 0;
        int greater = 0;
        for (int x = 0; x < PROGRAMMES && most < PARTS; x++) {
            for (int y = x + 1; y < PROGRAMMES; y++) {
                int unlike = Integer.bitCount(row[x] ^ row[y]);
                if (unlike > most) {
                    most = unlike;
                    lesser = x;
                    greater = y;
                }
            }
        }
        if (what == 0) {
            return most;
        }
        return what == 1 ? lesser : greater;
    }

    public int same(int house, int other) {
        if (!isHouse(house) || !isHouse(other) || house == other) {
            return NONE;
        }
        int[] here = comingTo(house);
        int[] there = comingTo(other);
        int alike = 0;
        for (int x = 0; x < PROGRAMMES; x++) {
            if (here[x] == there[x]) {
                alike++;
            }
        }
        return alike;
    }

    public int itself(int house) {
        if (!isHouse(house)) {
            return NONE;
        }
        int[] row = comingTo(house);
        for (int x = 1; x < PROGRAMMES; x++) {
            if (row[x] == x) {
                return x;
            }
        }
        return NOTHING;
    }

    public int times(int house, int i) {
        if (!isHouse(house) || !isWithin(i, NONE, MOST_TIMES - 1)) {
            return NONE;
        }
        int fewest = chooseTimes(house);
        if (fewest == NOTHING || i == NONE) {
            return fewest;
        }
        return i < fewest ? chosen[i] : NONE;
    }

    /** How many hours it takes, which then stand in chosen; NOTHING if three are too few. */
    private int chooseTimes(int house) {
        int needed = life.needOf(house);
        if (needed == 0) {
            return 0;
        }
        for (int t = 0; t < DAY_HOURS; t++) {
            sums[t] = allComing(house, t) & needed;
        }
        for (int size = 1; size <= MOST_TIMES; size++) {
            if (chooseSoMany(size, needed)) {
                return size;
            }
        }
        return NOTHING;
    }

    /** Hours that are not used stay at the one ahead of them, so that one walk does for one, two and three. */
    private boolean chooseSoMany(int size, int needed) {
        for (int a = 0; a < DAY_HOURS; a++) {
            int lastB = size < 2 ? a : DAY_HOURS - 1;
            for (int b = size < 2 ? a : a + 1; b <= lastB; b++) {
                int lastC = size < 3 ? b : DAY_HOURS - 1;
                for (int c = size < 3 ? b : b + 1; c <= lastC; c++) {
                    if ((sums[a] | sums[b] | sums[c]) == needed) {
                        chosen[0] = a;
                        chosen[1] = b;
                        chosen[2] = c;
                        return true;
                    }
                }
            }
        }
        return false;
    }

    public int bestHour(int house, int what) {
        if (!isHouse(house) || !isWithin(what, 0, 1)) {
            return NONE;
        }
        int best = 0;
        int most = NONE;
        for (int t = 0; t < DAY_HOURS; t++) {
            int come = Integer.bitCount(allComing(house, t) & life.wanted[house]);
            if (come > most) {
                most = come;
                best = t;
            }
        }
        return what == 0 ? best : most;
    }

    public int breakAt(int house) {
        return isHouse(house) ? life.firstDeaf(house) : NONE;
    }

    // ---- what would be

    private void dreamOn(int n, boolean deathly, int seed) {
        dream.copyOf(life);
        for (int i = 0; i < n; i++) {
            dream.goOn(terrace, air, deathly, seed);
        }
    }

    public int loudest(int n, int what) {
        if (!isWithin(n, 1, MOST_HOURS) || !isWithin(what, 0, 1)) {
            return NONE;
        }
        if (terrace.houses == 0) {
            return NOTHING;
        }
        addUpHeard(n);
        int best = 0;
        for (int h = 1; h < terrace.houses; h++) {
            if (sums[h] > sums[best]) {
                best = h;
            }
        }
        return what == 0 ? best : sums[best];
    }

    private void addUpHeard(int n) {
        Arrays.fill(sums, 0);
        dream.copyOf(life);
        for (int i = 0; i < n; i++) {
            dream.goOn(terrace, air, false, 0);
            for (int h = 0; h < terrace.houses; h++) {
                sums[h] += Integer.bitCount(dream.heard[h]);
            }
        }
    }

    public int warm(int n) {
        if (!isWithin(n, 0, MOST_HOURS)) {
            return NONE;
        }
        dreamOn(n, false, 0);
        return Integer.bitCount(dream.warmOnes());
    }

    public int lives(int who) {
        for (int h = 0; h < terrace.houses; h++) {
            if (life.who[h] == who) {
                return h;
            }
        }
        return NONE;
    }

    public int warmth(int house) {
        if (!isHouse(house)) {
            return NONE;
        }
        dream.copyOf(life);
        for (int n = 1; n <= MOST_HOURS; n++) {
            dream.goOn(terrace, air, true, terrace.seed);
            if (dream.heard[house] != 0) {
                return n;
            }
        }
        return NOTHING;
    }

    public int then(int house, int n, int what) {
        if (!isWithin(n, 0, MOST_HOURS) || !isWithin(what, 0, 2)) {
            return NONE;
        }
        if (what != 2 && !isHouse(house)) {
            return NONE;
        }
        dreamOn(n, true, terrace.seed);
        if (what == 2) {
            return Integer.bitCount(dream.contentOnes());
        }
        return what == 0 ? dream.heard[house] : Integer.bitCount(dream.had[house]);
    }

    public int quiet(int house, int n) {
        if (!isHouse(house) || !isWithin(n, 1, MOST_HOURS)) {
            return NONE;
        }
        int still = 0;
        dream.copyOf(life);
        for (int i = 0; i < n; i++) {
            dream.goOn(terrace, air, false, 0);
            if (dream.heard[house] == 0) {
                still++;
            }
        }
        return still;
    }

    public int mourn(int n) {
        if (!isWithin(n, 0, MOST_HOURS)) {
            return NONE;
        }
        dreamOn(n, true, terrace.seed);
        return Integer.bitCount(dream.mourningOnes());
    }

    public int carryBest(int what) {
        if (!isWithin(what, 0, 1)) {
            return NONE;
        }
        int most = 0;
        int best = NOTHING;
        for (int from = 0; from < terrace.houses; from++) {
            for (int to = 0; to < terrace.houses; to++) {
                int come = Integer.bitCount(life.heard[from] & life.needOf(to));
                if (from != to && come > most) {
                    most = come;
                    best = 10 * from + to;
                }
            }
        }
        return what == 0 || best == NOTHING ? best : most;
    }

    public int needs(int house) {
        return isHouse(house) ? life.needOf(house) : NONE;
    }

    public int changeBest(int what) {
        if (!isWithin(what, 0, 1)) {
            return NONE;
        }
        int most = contentBehindChange(0, 0);
        int best = NOTHING;
        for (int a = 0; a < terrace.houses; a++) {
            // More than all HOUSES there can't be, and these hours are the dearest of all calls.
            for (int b = a + 1; b < terrace.houses && most < terrace.houses; b++) {
                int content = contentBehindChange(a, b);
                if (content > most) {
                    most = content;
                    best = 10 * a + b;
                }
            }
        }
        return what == 0 || best == NOTHING ? best : most;
    }

    /** How many HOUSES have all that is WANTED, these two having changed; one and the same: nobody has. */
    private int contentBehindChange(int a, int b) {
        dream.copyOf(life);
        dream.swap(a, b);
        for (int i = 0; i < CHANGE_HOURS; i++) {
            dream.goOn(terrace, air, false, 0);
        }
        return Integer.bitCount(dream.contentOnes());
    }

    public int off(int house) {
        if (!isHouse(house)) {
            return NONE;
        }
        int dumb = 0;
        for (int h = 0; h <= house; h++) {
            if (!life.isOn(h)) {
                dumb++;
            }
        }
        return dumb;
    }

    public int year(int house, int n, int s) {
        if (!isHouse(house) || !isWithin(n, 0, MOST_HOURS) || !isWithin(s, 1, MOST_SEEDS)) {
            return NONE;
        }
        int good = 0;
        for (int i = 0; i < s; i++) {
            dreamOn(n, true, terrace.seed + i);
            if (dream.needOf(house) == 0) {
                good++;
            }
        }
        return good;
    }

    // ---- what was sent, by what was heard

    public int tell(int house, int programme) {
        if (!isHouse(house) || !isProgramme(programme)) {
            return NONE;
        }
        return told.add(house, programme);
    }

    public int forget() {
        int size = told.size;
        told.size = 0;
        return size;
    }

    /** The PROGRAMMES that are left, KNOWN by k, stand in taken: how many. */
    private int takeLeft(int k) {
        for (int x = 0; x < PROGRAMMES; x++) {
            taken[x] = x;
        }
        int size = PROGRAMMES;
        for (int j = 0; j < k && j < MOST_TOLD; j++) {
            int[] row = comingTo(told.house[j]);
            int kept = 0;
            for (int i = 0; i < size; i++) {
                if (row[taken[i]] == told.programme[j]) {
                    taken[kept] = taken[i];
                    kept++;
                }
            }
            size = kept;
        }
        return size;
    }

    public int sent(int k, int what) {
        if (!isWithin(k, 0, told.size) || !isWithin(what, 0, 3)) {
            return NONE;
        }
        int size = takeLeft(k);
        if (what == 0) {
            return size;
        }
        if (size == 0) {
            return NOTHING;
        }
        int inAll = ALL_PARTS;
        int inAny = 0;
        for (int i = 0; i < size; i++) {
            inAll &= taken[i];
            inAny |= taken[i];
        }
        if (what == 1) {
            return taken[0];
        }
        return what == 2 ? inAll : ALL_PARTS & ~inAny;
    }

    public int listen(int k) {
        if (!isWithin(k, 0, told.size)) {
            return NONE;
        }
        int size = takeLeft(k);
        int best = NOTHING;
        int fewest = PROGRAMMES + 1;
        for (int h = 0; h < terrace.houses && size > 0; h++) {
            int worst = mostAlike(comingTo(h), size);
            if (worst < fewest) {
                fewest = worst;
                best = h;
            }
        }
        return best;
    }

    private int mostAlike(int[] row, int size) {
        Arrays.fill(sums, 0);
        int most = 0;
        for (int i = 0; i < size; i++) {
            int come = row[taken[i]] & ALL_PARTS;
            sums[come]++;
            most = Math.max(most, sums[come]);
        }
        return most;
    }

    // ---- what is held, what is counted

    public boolean hold(int slot) {
        if (!isWithin(slot, 0, SLOTS - 1)) {
            return false;
        }
        slots[slot].copyOf(life);
        held |= 1 << slot;
        return true;
    }

    public boolean restore(int slot) {
        if (!isWithin(slot, 0, SLOTS - 1) || (held >> slot & 1) == 0) {
            return false;
        }
        life.copyOf(slots[slot]);
        past.size = 0;
        ways.filled = 0;
        return true;
    }

    public int count(int what) {
        switch (what) {
            case 0: return terrace.houses;
            case 1: return terrace.sends;
            case 2: return life.hour;
            case 3: return life.hour % DAY_HOURS;
            case 4: return life.sentNow(terrace);
            case 5: return life.on;
            case 6: return life.mourningOnes();
            case 7: return life.contentOnes();
            case 8: return life.warmOnes();
            case 9: return tapeLength;
            case 10: return past.size;
            case 11: return told.size;
            case 12: return Integer.bitCount(held);
            case 13: return life.deaths;
            case 14: return partsOf(life.had);
            case 15: return life.on & ~life.mourningOnes();
            case 16: return partsOf(life.heard);
            case 17: return life.movedOnes();
            default: return NONE;
        }
    }

    private int partsOf(int[] row) {
        int parts = 0;
        for (int h = 0; h < terrace.houses; h++) {
            parts += Integer.bitCount(row[h]);
        }
        return parts;
    }

    /** The LAWS of a text as steps over a pile of numbers, so that telling one makes no object. */
    static final class Laws {
        private static final int NUMBER = 0;
        private static final int VAR = 1;
        private static final int ADD = 2;
        private static final int TAKE = 3;
        private static final int MULTIPLY = 4;
        private static final int DIVIDE = 5;
        private static final int UNLESS_LESS = 6;
        private static final int ANSWER = 7;
        private static final int STEP_BITS = 3;
        // No TOKEN makes more than one step; a LAW that is not told has two.
        private static final int MOST_STEPS = MOST_TOKENS + 2 * LAWS;
        // Two numbers may wait at each depth of brackets, and one ahead of <.
        private static final int MOST_PILED = 2 * (MOST_DEPTH + 1) + 2;

        private final int[] steps = new int[MOST_STEPS];
        private final int[] first = new int[LAWS];
        private final int[] looks = new int[LAWS];
        private final int[] pile = new int[MOST_PILED];
        private int size;
        private int looked;

        void empty() {
            size = 0;
            for (int law = 0; law < LAWS; law++) {
                int start = size;
                looked = 0;
                add(NUMBER, law == KEEPS ? 1 : 0);
                add(ANSWER, 0);
                putLaw(law, start);
            }
        }

        /** The number of the step that comes next; VARS are noted from here on. */
        int startLaw() {
            looked = 0;
            return size;
        }

        void putLaw(int law, int start) {
            first[law] = start;
            looks[law] = looked;
        }

        boolean looksAt(int law, int var) {
            return (looks[law] >> var & 1) != 0;
        }

        int add(int step, int with) {
            if (step == VAR) {
                looked |= 1 << with;
            }
            if (size < MOST_STEPS) {
                steps[size] = with << STEP_BITS | step;
                size++;
            }
            return size - 1;
        }

        /** The jump of a step goes to what comes next. */
        void landHere(int jump) {
            if (jump >= 0 && jump < size) {
                steps[jump] = size << STEP_BITS | UNLESS_LESS;
            }
        }

        /** What a LAW tells; PART and parts alone are unlike within one HOUSE and hour. */
        int worth(int law, int[] vars, int part, int parts) {
            vars[PART] = part;
            vars[IN_PARTS] = parts;
            int top = 0;
            for (int i = first[law]; i >= 0 && i < size; i++) {
                int step = steps[i] & (1 << STEP_BITS) - 1;
                int with = steps[i] >> STEP_BITS;
                if (step == NUMBER || step == VAR) {
                    if (top >= MOST_PILED || step == VAR && with >= VARS) {
                        return 0;
                    }
                    pile[top] = step == NUMBER ? with : vars[with];
                    top++;
                    continue;
                }
                if (step == ANSWER) {
                    return top > 0 ? pile[top - 1] : 0;
                }
                if (top < 2 || step == DIVIDE && pile[top - 1] == 0) {
                    return 0;
                }
                top--;
                int left = pile[top - 1];
                int right = pile[top];
                switch (step) {
                    case ADD: pile[top - 1] = left + right; break;
                    case TAKE: pile[top - 1] = left - right; break;
                    case MULTIPLY: pile[top - 1] = left * right; break;
                    case DIVIDE: pile[top - 1] = left / right; break;
                    default:
                        top--;
                        if (left >= right && with > i) {
                            i = with - 1;
                        }
                }
            }
            return 0;
        }
    }

    /** What a text tells. */
    static final class Terrace {
        private final int[] wanted = new int[MOST_HOUSES];
        private final int[] age = new int[MOST_HOUSES];
        private final int[] programmeAt = new int[DAY_HOURS];
        private final Laws laws = new Laws();
        private int houses;
        private int sends;
        private int grief;
        private int seed;

        void empty() {
            Arrays.fill(programmeAt, 0);
            laws.empty();
            houses = 0;
            sends = 0;
            grief = 6;
            seed = 0;
        }

        void addHouse(int wants, int years) {
            if (houses < MOST_HOUSES) {
                wanted[houses] = wants;
                age[houses] = years;
                houses++;
            }
        }

        void addSend(int hour, int programme) {
            if (isWithin(hour, 0, DAY_HOURS - 1)) {
                programmeAt[hour] = programme;
            }
            sends++;
        }
    }

    /** The TOKENS of a tape, the 401st too, as it may be a FAULT of either sort. */
    static final class Tokens {
        private static final int NAME_BYTES = 8;
        private static final int INT_BYTES = 4;
        private static final int LETTER_BITS = 5;

        private final int[] kind = new int[MOST_TOKENS + 1];
        private final long[] value = new long[MOST_TOKENS + 1];
        private final int[] start = new int[MOST_TOKENS + 1];
        private int size;

        void cut(byte[] tape, int length) {
            size = 0;
            int at = 0;
            for (int i = 0; i <= length && size <= MOST_TOKENS; i++) {
                at = behindBlanks(tape, at, length);
                start[size] = at;
                at = cutOne(tape, at, length);
                size++;
                if (kind[size - 1] == END || kind[size - 1] == NO_TOKEN) {
                    return;
                }
            }
        }

        private static int behindBlanks(byte[] tape, int from, int length) {
            for (int at = from; at < length; at++) {
                int c = tape[at];
                if (c != 9 && c != 10 && c != 13 && c != 32) {
                    return at;
                }
            }
            return length;
        }

        /** Where the TOKEN ends; its kind and value stand at size. */
        private int cutOne(byte[] tape, int at, int length) {
            value[size] = 0;
            if (at >= length) {
                kind[size] = END;
                return at;
            }
            if (tape[at] >= 'a' && tape[at] <= 'z') {
                return cutWord(tape, at, length);
            }
            if (tape[at] >= '0' && tape[at] <= '9') {
                return cutInt(tape, at, length);
            }
            int sign = tape[at] < 0 ? NONE : SIGNS.indexOf((char) tape[at]);
            kind[size] = sign == NONE ? NO_TOKEN : SIGN + sign;
            return at + 1;
        }

        private int cutWord(byte[] tape, int at, int length) {
            int end = at;
            while (end < length && tape[end] >= 'a' && tape[end] <= 'z') {
                value[size] = value[size] << LETTER_BITS | tape[end] - 'a' + 1;
                end++;
            }
            if (end - at > NAME_BYTES) {
                kind[size] = NO_TOKEN;
            } else {
                int word = wordAt(tape, at, end);
                kind[size] = word == NONE ? NAME : word;
            }
            return end;
        }

        private static int wordAt(byte[] tape, int from, int end) {
            int word = 0;
            int at = from;
            boolean alike = true;
            for (int i = 0; i < WORDS.length(); i++) {
                char c = WORDS.charAt(i);
                if (c != ' ') {
                    alike = alike && at < end && tape[at] == c;
                    at++;
                } else if (alike && at == end) {
                    return word;
                } else {
                    word++;
                    at = from;
                    alike = true;
                }
            }
            return NONE;
        }

        private int cutInt(byte[] tape, int at, int length) {
            int end = at;
            while (end < length && tape[end] >= '0' && tape[end] <= '9') {
                value[size] = value[size] * 10 + tape[end] - '0';
                end++;
            }
            kind[size] = end - at > INT_BYTES ? NO_TOKEN : INT;
            return end;
        }
    }

    /** Reads a tape into a terrace; every step tells whether it goes on, as a FAULT ends it all. */
    static final class Reader {
        private final Tokens tokens = new Tokens();
        private final long[] names = new long[MOST_HOUSES];
        private Terrace terrace;
        private int next;
        private int number;
        private int fault;
        private int faultPlace;
        // TWICE and WRONG count only in a text that is without the other FAULTS.
        private int lateFault;
        private int latePlace;

        Reader(Terrace first) {
            terrace = first;
        }

        /** The number of the FAULT, or 0. */
        int readInto(Terrace into, byte[] tape, int length) {
            terrace = into;
            terrace.empty();
            tokens.cut(tape, length);
            next = 0;
            fault = 0;
            faultPlace = NONE;
            lateFault = 0;
            latePlace = NONE;
            boolean goesOn = true;
            for (int i = 0; i <= MOST_TOKENS && goesOn && kind() != END; i++) {
                int word = kind();
                switch (word) {
                    case WORD_HOUSE: goesOn = readHouse(); break;
                    case WORD_SENDS: goesOn = readSend(); break;
                    case WORD_KEEPS:
                    case WORD_TURNS:
                    case WORD_HUMS:
                    case WORD_DIES: goesOn = readLaw(word - WORD_KEEPS); break;
                    case WORD_GRIEF: goesOn = readGrief(); break;
                    case WORD_SEED: goesOn = readSeed(); break;
                    default: goesOn = stop(SYNTAX);
                }
            }
            if (fault == 0) {
                fault = lateFault;
                faultPlace = latePlace;
            }
            return fault;
        }

        private int kind() {
            return next < tokens.size ? tokens.kind[next] : END;
        }

        private boolean stop(int why) {
            fault = why;
            faultPlace = next <= MOST_TOKENS ? tokens.start[next] : NONE;
            return false;
        }

        private void noteLate(int why) {
            if (lateFault == 0 && next <= MOST_TOKENS) {
                lateFault = why;
                latePlace = tokens.start[next];
            }
        }

        /** Goes behind a TOKEN that fits here. */
        private boolean step() {
            if (next >= MOST_TOKENS) {
                fault = ROOM;
                faultPlace = tokens.start[MOST_TOKENS];
                return false;
            }
            next++;
            return true;
        }

        private boolean take(int wanted) {
            return kind() == wanted ? step() : stop(SYNTAX);
        }

        private boolean takeNumber(int least, int most) {
            if (kind() != INT) {
                return stop(SYNTAX);
            }
            number = (int) tokens.value[next];
            if (!isWithin(number, least, most)) {
                noteLate(WRONG);
            }
            return step();
        }

        private boolean takeName() {
            if (kind() != NAME) {
                return stop(SYNTAX);
            }
            long name = tokens.value[next];
            for (int h = 0; h < terrace.houses; h++) {
                if (names[h] == name) {
                    noteLate(TWICE);
                }
            }
            names[terrace.houses] = name;
            return step();
        }

        private boolean readHouse() {
            if (terrace.houses >= MOST_HOUSES) {
                return stop(ROOM);
            }
            if (!step() || !takeName() || !takeNumber(0, ALL_PARTS)) {
                return false;
            }
            int wanted = number;
            if (!takeNumber(0, 99) || !take(SIGN_ENDS)) {
                return false;
            }
            terrace.addHouse(wanted, number);
            return true;
        }

        private boolean readSend() {
            if (terrace.sends >= MOST_SENDS) {
                return stop(ROOM);
            }
            if (!step() || !takeNumber(0, DAY_HOURS - 1)) {
                return false;
            }
            int hour = number;
            if (!takeNumber(0, ALL_PARTS) || !take(SIGN_ENDS)) {
                return false;
            }
            terrace.addSend(hour, number);
            return true;
        }

        private boolean readGrief() {
            if (!step() || !takeNumber(1, 99) || !take(SIGN_ENDS)) {
                return false;
            }
            terrace.grief = number;
            return true;
        }

        private boolean readSeed() {
            if (!step() || !takeNumber(0, 9999) || !take(SIGN_ENDS)) {
                return false;
            }
            terrace.seed = number;
            return true;
        }

        private boolean readLaw(int law) {
            Laws laws = terrace.laws;
            if (!step() || !take(SIGN_IS)) {
                return false;
            }
            int start = laws.startLaw();
            for (int ifs = 0; ifs <= MOST_IFS && kind() == WORD_IF; ifs++) {
                if (ifs == MOST_IFS) {
                    return stop(ROOM);
                }
                if (!step() || !readSum(0) || !take(SIGN_LESS) || !readSum(0) || !take(WORD_THEN)) {
                    return false;
                }
                int jump = laws.add(Laws.UNLESS_LESS, 0);
                if (!readSum(0) || !take(WORD_ELSE)) {
                    return false;
                }
                laws.add(Laws.ANSWER, 0);
                laws.landHere(jump);
            }
            if (!readSum(0) || !take(SIGN_ENDS)) {
                return false;
            }
            laws.add(Laws.ANSWER, 0);
            laws.putLaw(law, start);
            return true;
        }

        private boolean readSum(int depth) {
            boolean goesOn = readProduct(depth);
            for (int i = 0; i < MOST_TOKENS && goesOn; i++) {
                int sign = kind();
                if (sign != SIGN_PLUS && sign != SIGN_MINUS) {
                    return true;
                }
                goesOn = step() && readProduct(depth);
                terrace.laws.add(sign == SIGN_PLUS ? Laws.ADD : Laws.TAKE, 0);
            }
            return goesOn;
        }

        private boolean readProduct(int depth) {
            boolean goesOn = readUnit(depth);
            for (int i = 0; i < MOST_TOKENS && goesOn; i++) {
                int sign = kind();
                if (sign != SIGN_TIMES && sign != SIGN_OVER) {
                    return true;
                }
                goesOn = step() && readUnit(depth);
                terrace.laws.add(sign == SIGN_TIMES ? Laws.MULTIPLY : Laws.DIVIDE, 0);
            }
            return goesOn;
        }

        private boolean readUnit(int depth) {
            int unit = kind();
            if (unit == INT) {
                terrace.laws.add(Laws.NUMBER, (int) tokens.value[next]);
                return step();
            }
            if (isWithin(unit, WORD_DOOR, WORD_HAD)) {
                terrace.laws.add(Laws.VAR, unit - WORD_DOOR);
                return step();
            }
            if (unit != SIGN_OPENS) {
                return stop(SYNTAX);
            }
            if (depth >= MOST_DEPTH) {
                return stop(ROOM);
            }
            return step() && readSum(depth + 1) && take(SIGN_CLOSES);
        }
    }

    /** All that goes on in a terrace; a HOUSE's bit is its number. */
    static final class Life {
        private final int[] wanted = new int[MOST_HOUSES];
        private final int[] age = new int[MOST_HOUSES];
        private final int[] had = new int[MOST_HOUSES];
        private final int[] who = new int[MOST_HOUSES];
        private final int[] heard = new int[MOST_HOUSES];
        private final int[] grief = new int[MOST_HOUSES];
        private int houses;
        private int hour;
        private int byHand = NONE;
        private int on;
        private int deaths;

        void begin(Terrace terrace) {
            houses = terrace.houses;
            hour = 0;
            byHand = NONE;
            on = (1 << houses) - 1;
            deaths = 0;
            for (int h = 0; h < MOST_HOUSES; h++) {
                wanted[h] = terrace.wanted[h];
                age[h] = terrace.age[h];
                had[h] = 0;
                who[h] = h;
                heard[h] = 0;
                grief[h] = 0;
            }
        }

        void copyOf(Life other) {
            houses = other.houses;
            hour = other.hour;
            byHand = other.byHand;
            on = other.on;
            deaths = other.deaths;
            System.arraycopy(other.wanted, 0, wanted, 0, MOST_HOUSES);
            System.arraycopy(other.age, 0, age, 0, MOST_HOUSES);
            System.arraycopy(other.had, 0, had, 0, MOST_HOUSES);
            System.arraycopy(other.who, 0, who, 0, MOST_HOUSES);
            System.arraycopy(other.heard, 0, heard, 0, MOST_HOUSES);
            System.arraycopy(other.grief, 0, grief, 0, MOST_HOUSES);
        }

        boolean isOn(int house) {
            return (on >> house & 1) != 0;
        }

        boolean isHearing(int house) {
            return isOn(house) && grief[house] == 0;
        }

        /** The first from 0 to a HOUSE whose set does not HEAR, or NOTHING. */
        int firstDeaf(int house) {
            for (int h = 0; h <= house && h < MOST_HOUSES; h++) {
                if (!isHearing(h)) {
                    return h;
                }
            }
            return NOTHING;
        }

        int needOf(int house) {
            return wanted[house] & ~had[house];
        }

        int sentNow(Terrace terrace) {
            return byHand == NONE ? terrace.programmeAt[Math.floorMod(hour, DAY_HOURS)] : byHand;
        }

        void hear(int house, int programme) {
            heard[house] = programme;
            had[house] |= programme & wanted[house];
        }

        void swap(int a, int b) {
            swapIn(wanted, a, b);
            swapIn(age, a, b);
            swapIn(had, a, b);
            swapIn(who, a, b);
        }

        private static void swapIn(int[] row, int a, int b) {
            int kept = row[a];
            row[a] = row[b];
            row[b] = kept;
        }

        /** AN HOUR. The last HOUSE goes first, so that each still finds what the one ahead of it heard. */
        void goOn(Terrace terrace, Air air, boolean deathly, int seed) {
            int sent = sentNow(terrace);
            for (int h = houses - 1; h >= 0; h--) {
                air.standAt(terrace, this, h, hour);
                int programme = 0;
                if (isHearing(h)) {
                    programme = h == 0 ? sent : air.passing(heard[h - 1]);
                }
                if (grief[h] > 0) {
                    grief[h]--;
                } else if (deathly && lot(seed, 16 * hour + h) < air.dying()) {
                    grief[h] = terrace.grief;
                    deaths++;
                }
                hear(h, programme);
            }
            byHand = NONE;
            hour++;
        }

        /** LOT 100. */
        private static int lot(int seed, int which) {
            int h = mixed(mixed(seed, 137), which);
            return (h >>> 1) % 100;
        }

        private static int mixed(int h, int with) {
            int more = (h ^ with) * 1103515245 + 12345;
            return more ^ more >>> 15;
        }

        int mourningOnes() {
            int bits = 0;
            for (int h = 0; h < houses; h++) {
                if (grief[h] > 0) {
                    bits |= 1 << h;
                }
            }
            return bits;
        }

        int contentOnes() {
            int bits = 0;
            for (int h = 0; h < houses; h++) {
                if (needOf(h) == 0) {
                    bits |= 1 << h;
                }
            }
            return bits;
        }

        int warmOnes() {
            int bits = 0;
            for (int h = 0; h < houses; h++) {
                if (heard[h] != 0) {
                    bits |= 1 << h;
                }
            }
            return bits;
        }

        int movedOnes() {
            int bits = 0;
            for (int h = 0; h < houses; h++) {
                if (who[h] != h) {
                    bits |= 1 << h;
                }
            }
            return bits;
        }
    }

    /** The way to one HOUSE in one hour; what its LAWS tell is kept, as 256 PROGRAMMES may go it. */
    static final class Air {
        private final int[] vars = new int[VARS];
        // By how many PARTS are passed: which PARTS are known, which of them are kept, the turn.
        private final int[] known = new int[PARTS + 1];
        private final int[] kept = new int[PARTS + 1];
        private final int[] turn = new int[PARTS + 1];
        private int hum;
        private Laws laws;

        Air(Laws first) {
            laws = first;
        }

        void standAt(Terrace terrace, Life life, int house, int hour) {
            laws = terrace.laws;
            vars[DOOR] = house;
            vars[HOUR] = hour % DAY_HOURS;
            vars[DAY] = hour / DAY_HOURS;
            vars[WANTS] = Integer.bitCount(life.wanted[house]);
            vars[AGE] = life.age[house];
            vars[MANY] = terrace.houses;
            vars[HAD] = Integer.bitCount(life.had[house]);
            Arrays.fill(known, 0);
            Arrays.fill(kept, 0);
            Arrays.fill(turn, NONE);
            hum = NONE;
        }

        int turning(int parts) {
            if (turn[parts] == NONE) {
                turn[parts] = Math.max(0, Math.min(PARTS - 1, laws.worth(TURNS, vars, 0, parts)));
            }
            return turn[parts];
        }

        int humming() {
            if (hum == NONE) {
                hum = Math.max(0, Math.min(ALL_PARTS, laws.worth(HUMS, vars, 0, 0)));
            }
            return hum;
        }

        int dying() {
            return Math.max(0, Math.min(100, laws.worth(DIES, vars, 0, 0)));
        }

        int passing(int programme) {
            int parts = Integer.bitCount(programme & ALL_PARTS);
            int left = keeping(programme & ALL_PARTS, parts);
            if (left != 0) {
                int by = turning(parts);
                left = (left << by | left >> PARTS - by) & ALL_PARTS;
            }
            return left | humming();
        }

        private int keeping(int programme, int parts) {
            if ((programme & ~known[parts]) == 0) {
                return programme & kept[parts];
            }
            if (!laws.looksAt(KEEPS, PART)) {
                known[parts] = ALL_PARTS;
                kept[parts] = laws.worth(KEEPS, vars, 0, parts) > 0 ? ALL_PARTS : 0;
                return programme & kept[parts];
            }
            for (int p = 0; p < PARTS; p++) {
                int bit = 1 << p;
                if ((programme & bit & ~known[parts]) != 0 && laws.worth(KEEPS, vars, p, parts) > 0) {
                    kept[parts] |= bit;
                }
            }
            known[parts] |= programme;
            return programme & kept[parts];
        }
    }

    /** What COMES to each HOUSE of each PROGRAMME, as far as it was asked for since something was done. */
    static final class Ways {
        private final int[][] rows = new int[MOST_HOUSES][PROGRAMMES];
        private int filled;

        int[] rowOf(int house, Terrace terrace, Life life, Air air) {
            for (int h = filled; h <= house; h++) {
                fill(h, terrace, life, air);
            }
            filled = Math.max(filled, house + 1);
            return rows[house];
        }

        private void fill(int house, Terrace terrace, Life life, Air air) {
            int[] row = rows[house];
            if (life.firstDeaf(house) != NOTHING) {
                Arrays.fill(row, 0);
                return;
            }
            if (house > 0) {
                air.standAt(terrace, life, house, life.hour + house);
            }
            for (int x = 0; x < PROGRAMMES; x++) {
                row[x] = house == 0 ? x : air.passing(rows[house - 1][x]);
            }
        }
    }

    /** The last things done, as what went on ahead of each. */
    static final class Past {
        private final Life[] lives = new Life[MOST_UNDONE];
        private int first;
        private int size;

        Past() {
            for (int i = 0; i < MOST_UNDONE; i++) {
                lives[i] = new Life();
            }
        }

        void keep(Life life) {
            lives[(first + size) % MOST_UNDONE].copyOf(life);
            if (size < MOST_UNDONE) {
                size++;
            } else {
                first = (first + 1) % MOST_UNDONE;
            }
        }

        boolean giveBack(Life life) {
            if (size == 0) {
                return false;
            }
            size--;
            life.copyOf(lives[(first + size) % MOST_UNDONE]);
            return true;
        }
    }

    /** What is TOLD. */
    static final class Told {
        private final int[] house = new int[MOST_TOLD];
        private final int[] programme = new int[MOST_TOLD];
        private int size;

        /** Its number, or NONE. */
        int add(int where, int what) {
            if (size >= MOST_TOLD) {
                return NONE;
            }
            house[size] = where;
            programme[size] = what;
            size++;
            return size - 1;
        }
    }
}
