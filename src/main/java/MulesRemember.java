/** A ridge of stones, mules that go along it, and the articles of a treaty that they know or do not know. */
public final class MulesRemember {
    public static final int UNKNOWN = -1, BAD = -2, LATE = -3, FULL = -4, NONE = -9;

    private static final int STONES = 10, MOST_MULES = 5, MOST_ARTICLES = 5;
    private static final int MOST_BYTES = 48, MOST_ACTS = 14, MOST_SEEN = 6, SLOTS = 2;
    private static final int COATS = 4, KINDS = 4, SORTS = 4, VALUES = 10, HOURS = 10;
    private static final int PLAIN = 0, OLD = 1, FOAL = 2, CIRCUS = 3;
    private static final int DOWN = 0, UP = 1;
    private static final int EVEN_ARTICLES = 0b10101;
    private static final int LONGEST_WAY = 12, MOST_DOINGS = 4, MOST_YEARS = 30, TENTHS = 10, LOTS = 12;
    private static final int NO_STEP = -1;
    private static final long SEED_TIMES = 6364136223846793005L, SEED_MORE = 1442695040888963407L;

    private final Text text = new Text();
    private final Law law = new Law();
    private final int[] coats = new int[MOST_MULES];
    private int muleCount = 0;
    private final State now = new State();
    private final State tried = new State();
    private final State[] acts = new State[MOST_ACTS];
    private int firstAct = 0;
    private int actCount = 0;
    private final State[] slots = new State[SLOTS];
    private final boolean[] kept = new boolean[SLOTS];
    private final Sightings sightings = new Sightings();
    private final int[] tally = new int[MOST_MULES + 1];
    private long theSeed = 0L;

    public MulesRemember() {
        for (int i = 0; i < acts.length; i++) {
            acts[i] = new State();
        }
        for (int i = 0; i < slots.length; i++) {
            slots[i] = new State();
        }
    }

    // ---- the treaty

    public int write(int letter) {
        if (letter < 0 || letter > 255) {
            return BAD;
        }
        return text.put(letter) ? text.length : FULL;
    }

    public int wipe() {
        int was = text.length;
        text.length = 0;
        return was;
    }

    public int fault() {
        return text.firstFault();
    }

    public int treaty() {
        if (text.firstFault() != NONE) {
            return LATE;
        }
        muleCount = 0;
        law.count = 0;
        now.hour = 0;
        now.broken = 0;
        for (int at = 1; at < text.length; at += Text.PART) {
            readPart(at);
        }
        actCount = 0;
        for (int i = 0; i < kept.length; i++) {
            kept[i] = false;
        }
        return 10 * muleCount + law.count;
    }

    public int about(int what) {
        switch (what) {
            case 0: return muleCount;
            case 1: return law.count;
            case 2: return now.hour;
            case 3: return now.broken;
            case 4: return actCount;
            case 5: return sightings.count;
            case 6: return text.length;
            default: return BAD;
        }
    }

    public int article(int article, int what) {
        if (!isArticle(article)) {
            return UNKNOWN;
        }
        switch (what) {
            case 0: return law.stone[article];
            case 1: return law.sort[article];
            case 2: return law.value[article];
            case 3: return mulesThatKnow(article);
            default: return BAD;
        }
    }

    public int mule(int mule, int what) {
        if (!isMule(mule)) {
            return UNKNOWN;
        }
        switch (what) {
            case 0: return now.stone[mule];
            case 1: return coats[mule];
            case 2: return now.kind[mule];
            case 3: return now.shown[mule];
            case 4: return known(now, mule);
            default: return BAD;
        }
    }

    public int by(int mule, int way) {
        int refusal = stepRefusal(mule, way);
        return refusal != 0 ? refusal : forbidders(now, mule, way);
    }

    public int balks(int mule, int way) {
        int refusal = stepRefusal(mule, way);
        return refusal != 0 ? refusal : firstOf(balkers(now, mule, way));
    }

    // ---- acts

    public int step(int mule, int way) {
        int refusal = stepRefusal(mule, way);
        if (refusal != 0) {
            return refusal;
        }
        if (!wouldGo(now, mule, way)) {
            return LATE;
        }
        rememberAct();
        go(now, mule, way);
        return now.stone[mule];
    }

    public int pause() {
        rememberAct();
        now.hour++;
        return now.hour;
    }

    public int show(int mule, int other, int article) {
        if (!isMule(mule) || !isMule(other) || !isArticle(article)) {
            return UNKNOWN;
        }
        if (mule == other) {
            return BAD;
        }
        int bit = 1 << article;
        boolean together = now.stone[mule] == now.stone[other];
        if (!together || (known(now, other) & bit) == 0 || (now.shown[mule] & bit) != 0) {
            return LATE;
        }
        rememberAct();
        now.shown[mule] |= bit;
        return Integer.bitCount(now.shown[mule]);
    }

    public int sell(int mule) {
        if (!isMule(mule)) {
            return UNKNOWN;
        }
        int was = now.kind[mule];
        if (was == CIRCUS) {
            return LATE;
        }
        rememberAct();
        now.kind[mule] = CIRCUS;
        return was;
    }

    public int forget(int mule) {
        if (!isMule(mule)) {
            return UNKNOWN;
        }
        int was = now.shown[mule];
        if (was == 0) {
            return LATE;
        }
        rememberAct();
        now.shown[mule] = 0;
        return Integer.bitCount(was);
    }

    public int undo() {
        if (actCount == 0) {
            return LATE;
        }
        actCount--;
        copyState(actAt(actCount), now);
        return actCount;
    }

    // ---- ways

    public int way(int mule, int stone, boolean honest) {
        if (!isMule(mule) || !isStone(stone)) {
            return UNKNOWN;
        }
        int heeded = honest ? law.all() : known(now, mule);
        int reached = 1 << now.stone[mule];
        for (int spent = 0; spent <= LONGEST_WAY; spent++) {
            if ((reached >> stone & 1) != 0) {
                return spent;
            }
            reached = spread(mule, reached, now.hour + spent, heeded);
        }
        return NONE;
    }

    public int enclaves(int mule) {
        if (!isMule(mule)) {
            return UNKNOWN;
        }
        int heeded = known(now, mule);
        int reached = 1 << now.stone[mule];
        for (int spent = 0; spent < LONGEST_WAY; spent++) {
            reached = spread(mule, reached, now.hour + spent, heeded);
        }
        return ~reached & ((1 << STONES) - 1);
    }

    public int teach(int mule) {
        if (!isMule(mule)) {
            return UNKNOWN;
        }
        int knows = known(now, mule);
        int best = NONE;
        int fewest = MOST_ARTICLES + 1;
        for (int taught = 0; taught <= law.all(); taught++) {
            int count = Integer.bitCount(taught);
            if ((taught & knows) == 0 && count < fewest && keepsAllIfShown(mule, taught)) {
                best = taught;
                fewest = count;
            }
        }
        return best;
    }

    public int differ(int mule, int other) {
        if (!isMule(mule) || !isMule(other)) {
            return UNKNOWN;
        }
        return firstOf(known(now, mule) ^ known(now, other));
    }

    public int judge(int n, int row) {
        if (n < 1 || n > MOST_DOINGS || row < 0) {
            return BAD;
        }
        int unit = 1;
        for (int i = 1; i < n; i++) {
            unit *= 100;
        }
        if (unit <= 0 || row / unit > 99) {
            return BAD;
        }
        copyState(now, tried);
        for (int place = 0; place < n && unit > 0; place++) {
            int doing = row / unit % 100;
            if (!doneWithoutFault(tried, doing / 10, doing % 10)) {
                return place;
            }
            unit /= 100;
        }
        return NONE;
    }

    public int share(int article, boolean upper) {
        if (!isArticle(article)) {
            return UNKNOWN;
        }
        int sixtieths = 0;
        for (int mule = 0; mule < muleCount; mule++) {
            for (int way = DOWN; way <= UP; way++) {
                sixtieths += sixtiethsOfStep(forbidders(now, mule, way), article);
            }
        }
        return fractionPart(sixtieths, 60, upper);
    }

    // ---- the lost law

    public int see(int stone, int coat, int hour, int south, int balked) {
        if (!isStone(stone)) {
            return UNKNOWN;
        }
        if (coat < 0 || coat >= COATS || hour < 0 || hour >= HOURS || !isFlag(south) || !isFlag(balked)) {
            return BAD;
        }
        return sightings.add(stone, coat, hour, south, balked) ? sightings.count : FULL;
    }

    public int unsee() {
        int was = sightings.count;
        sightings.count = 0;
        return was;
    }

    public int may(int stone, int what) {
        if (!isStone(stone)) {
            return UNKNOWN;
        }
        if (!isFlag(what)) {
            return BAD;
        }
        int count = 0;
        int first = NONE;
        for (int sort = 0; sort <= Law.BY_WAY; sort++) {
            for (int value = 0; value < VALUES; value++) {
                if (sightings.agreeWith(stone, sort, value)) {
                    first = count == 0 ? 10 * sort + value : first;
                    count++;
                }
            }
        }
        return what == 0 ? count : first;
    }

    // ---- rests, chances

    public int rests(int what) {
        if (!isFlag(what)) {
            return BAD;
        }
        int string = worthOfString();
        int count = 0;
        int first = NONE;
        for (int one = 0; one <= 1; one++) {
            for (int other = 0; other <= 1; other++) {
                if (isContent(one, other, string) && isContent(other, one, string)) {
                    first = count == 0 ? 10 * one + other : first;
                    count++;
                }
            }
        }
        return what == 0 ? count : first;
    }

    public int forgets(int way, int m, int x, boolean upper) {
        if (!isFlag(way) || m < 0 || m > MOST_MULES || x < 0 || x > TENTHS) {
            return BAD;
        }
        for (int i = 0; i < tally.length; i++) {
            tally[i] = i == 0 ? 1 : 0;
        }
        int whole = 1;
        for (int mule = 0; mule < muleCount; mule++) {
            tallyMule(tenthsToBalk(mule, way, x));
            whole *= TENTHS;
        }
        int part = 0;
        for (int i = m; i < tally.length; i++) {
            part += tally[i];
        }
        return fractionPart(part, whole, upper);
    }

    public long seed(long v) {
        long was = theSeed;
        theSeed = v;
        return was;
    }

    public int years(int m) {
        if (m < 1 || m > MOST_YEARS) {
            return BAD;
        }
        copyState(now, tried);
        for (int i = 0; i < m; i++) {
            theSeed = theSeed * SEED_TIMES + SEED_MORE;
            int lot = (int) ((theSeed >>> 33) % LOTS);
            liveThrough(tried, lot / 2, lot % 2);
        }
        return tried.broken - now.broken;
    }

    // ---- slots

    public int keep(int slot) {
        if (!isSlot(slot)) {
            return UNKNOWN;
        }
        copyState(now, slots[slot]);
        kept[slot] = true;
        return now.hour;
    }

    public int again(int slot) {
        if (!isSlot(slot)) {
            return UNKNOWN;
        }
        if (!kept[slot]) {
            return LATE;
        }
        copyState(slots[slot], now);
        actCount = 0;
        return now.hour;
    }

    // ---- what there is

    private boolean isMule(int mule) {
        return mule >= 0 && mule < muleCount && mule < MOST_MULES;
    }

    private boolean isArticle(int article) {
        return article >= 0 && article < law.count && article < MOST_ARTICLES;
    }

    private static boolean isStone(int stone) {
        return stone >= 0 && stone < STONES;
    }

    private static boolean isSlot(int slot) {
        return slot >= 0 && slot < SLOTS;
    }

    private static boolean isFlag(int flag) {
        return flag == 0 || flag == 1;
    }

    private static int firstOf(int bits) {
        for (int article = 0; article < MOST_ARTICLES; article++) {
            if ((bits >> article & 1) != 0) {
                return article;
            }
        }
        return NONE;
    }

    private void readPart(int at) {
        int first = text.figure(at + 1);
        int second = text.figure(at + 2);
        int third = text.figure(at + 3);
        if (text.letter(at) == Text.ARTICLE) {
            law.add(first, second, third);
        } else if (muleCount < MOST_MULES) {
            now.stone[muleCount] = first;
            now.kind[muleCount] = third;
            now.shown[muleCount] = 0;
            coats[muleCount] = second;
            muleCount++;
        }
    }

    // ---- who knows what, and what is forbidden

    private int known(State state, int mule) {
        return isMule(mule) ? knownIfShown(state.kind[mule], state.shown[mule]) : 0;
    }

    private int knownIfShown(int kind, int shown) {
        int all = law.all();
        switch (kind) {
            case PLAIN: return shown | (EVEN_ARTICLES & all);
            case OLD: return all;
            case FOAL: return shown;
            case CIRCUS: return law.last();
            default: return 0;
        }
    }

    private int mulesThatKnow(int article) {
        int bits = 0;
        for (int mule = 0; mule < muleCount; mule++) {
            if ((known(now, mule) >> article & 1) != 0) {
                bits |= 1 << mule;
            }
        }
        return bits;
    }

    /** 0, or the refusal of a question about a mule's step. */
    private int stepRefusal(int mule, int way) {
        if (!isMule(mule)) {
            return UNKNOWN;
        }
        if (!isFlag(way)) {
            return BAD;
        }
        return isStone(nextStone(now.stone[mule], way)) ? 0 : LATE;
    }

    private static int nextStone(int stone, int way) {
        return way == UP ? stone + 1 : stone - 1;
    }

    /** The articles (bits) that forbid a mule's step in a state; NO_STEP where the ridge ends. */
    private int forbidders(State state, int mule, int way) {
        if (!isMule(mule)) {
            return NO_STEP;
        }
        return forbiddersFrom(state, mule, state.stone[mule], way, state.hour);
    }

    /** Likewise, were the mule on another stone, at another hour, and all others as they are. */
    private int forbiddersFrom(State state, int mule, int from, int way, int hour) {
        int onto = nextStone(from, way);
        if (!isMule(mule) || !isStone(onto)) {
            return NO_STEP;
        }
        int others = othersFromNorthOf(state, mule, onto);
        int bits = 0;
        for (int article = 0; article < law.count; article++) {
            if (law.forbids(article, onto, coats[mule], hour % HOURS, way, others)) {
                bits |= 1 << article;
            }
        }
        return bits;
    }

    private int othersFromNorthOf(State state, int mule, int stone) {
        int count = 0;
        for (int other = 0; other < muleCount && other < MOST_MULES; other++) {
            if (other != mule && state.stone[other] >= stone) {
                count++;
            }
        }
        return count;
    }

    /** The articles (bits) at which a mule balks; none where the ridge ends. */
    private int balkers(State state, int mule, int way) {
        int bits = forbidders(state, mule, way);
        return bits == NO_STEP ? 0 : bits & known(state, mule);
    }

    private boolean wouldGo(State state, int mule, int way) {
        int bits = forbidders(state, mule, way);
        return bits != NO_STEP && (bits & known(state, mule)) == 0;
    }

    // ---- doings

    private static void copyState(State from, State to) {
        if (from == null || to == null) {
            return;
        }
        for (int mule = 0; mule < MOST_MULES; mule++) {
            to.stone[mule] = from.stone[mule];
            to.kind[mule] = from.kind[mule];
            to.shown[mule] = from.shown[mule];
        }
        to.hour = from.hour;
        to.broken = from.broken;
    }

    private void rememberAct() {
        if (actCount == MOST_ACTS) {
            firstAct = (firstAct + 1) % MOST_ACTS;
            actCount--;
        }
        copyState(now, actAt(actCount));
        actCount++;
    }

    /** The state ahead of an act, by its place in the row, the first act's being 0. */
    private State actAt(int place) {
        int at = (firstAct + place) % MOST_ACTS;
        return at >= 0 && at < acts.length ? acts[at] : null;
    }

    private void go(State state, int mule, int way) {
        int bits = forbidders(state, mule, way);
        if (bits == NO_STEP) {
            return;
        }
        state.broken += Integer.bitCount(bits);
        state.stone[mule] = nextStone(state.stone[mule], way);
        state.hour++;
    }

    /** One doing told by two figures is done in a state: whether it can be, and breaks nothing. */
    private boolean doneWithoutFault(State state, int first, int second) {
        if (first == 0) {
            state.hour++;
            return second == 0;
        }
        if (first <= MOST_MULES) {
            boolean free = isFlag(second) && forbidders(state, first - 1, second) == 0;
            if (free) {
                go(state, first - 1, second);
            }
            return free;
        }
        if (!isMule(second)) {
            return false;
        }
        if (first == 6) {
            boolean sellable = state.kind[second] != CIRCUS;
            state.kind[second] = CIRCUS;
            return sellable;
        }
        boolean forgettable = first == 7 && state.shown[second] != 0;
        state.shown[second] = 0;
        return forgettable;
    }

    private void liveThrough(State state, int mule, int way) {
        if (wouldGo(state, mule, way)) {
            go(state, mule, way);
        } else {
            state.hour++;
        }
    }

    // ---- ways, lessons, shares

    /** The stones (bits) that can be reached by one step or wait more, no heeded article forbidding. */
    private int spread(int mule, int reached, int hour, int heeded) {
        int next = reached;
        for (int stone = 0; stone < STONES; stone++) {
            for (int way = DOWN; way <= UP && (reached >> stone & 1) != 0; way++) {
                int bits = forbiddersFrom(now, mule, stone, way, hour);
                if (bits != NO_STEP && (bits & heeded) == 0) {
                    next |= 1 << nextStone(stone, way);
                }
            }
        }
        return next;
    }

    private boolean keepsAllIfShown(int mule, int taught) {
        if (!isMule(mule)) {
            return false;
        }
        int knows = knownIfShown(now.kind[mule], now.shown[mule] | taught);
        for (int way = DOWN; way <= UP; way++) {
            int bits = forbidders(now, mule, way);
            if (bits != NO_STEP && bits != 0 && (bits & knows) == 0) {
                return false;
            }
        }
        return true;
    }

    /** Of k articles that forbid a step each is the first to come in one order of k, and only the first counts. */
    private static int sixtiethsOfStep(int bits, int article) {
        if (bits == NO_STEP || (bits >> article & 1) == 0) {
            return 0;
        }
        int count = Integer.bitCount(bits);
        return count == 0 ? 0 : 60 / count;
    }

    // ---- councils, chances

    private int worthOfString() {
        int worth = 0;
        for (int mule = 0; mule < muleCount; mule++) {
            int bits = forbidders(now, mule, UP);
            if (bits != NO_STEP) {
                worth += (bits & known(now, mule)) == 0 ? 1 : -1;
            }
        }
        return worth;
    }

    private static int gain(int own, int other, int string) {
        if (own == 1) {
            return other == 1 ? string / 2 : string;
        }
        return other == 1 ? -1 : 0;
    }

    private static boolean isContent(int own, int other, int string) {
        return gain(own, other, string) >= gain(1 - own, other, string);
    }

    private int tenthsToBalk(int mule, int way, int x) {
        int bits = forbidders(now, mule, way);
        if (bits == NO_STEP || !isMule(mule)) {
            return 0;
        }
        boolean balksNow = (bits & known(now, mule)) != 0;
        boolean balksThen = (bits & knownIfShown(now.kind[mule], 0)) != 0;
        return (balksNow ? TENTHS - x : 0) + (balksThen ? x : 0);
    }

    private void tallyMule(int tenths) {
        for (int i = tally.length - 1; i > 0; i--) {
            tally[i] = tally[i] * (TENTHS - tenths) + tally[i - 1] * tenths;
        }
        tally[0] *= TENTHS - tenths;
    }

    /** The upper or the lower part in least terms, by Euclid; no fraction of ours is less than 0. */
    private static int fractionPart(int part, int whole, boolean upper) {
        int divisor = whole;
        int left = part;
        for (int i = 0; i < 100 && left != 0; i++) {
            int rest = divisor % left;
            divisor = left;
            left = rest;
        }
        if (divisor == 0) {
            return 0;
        }
        return upper ? part / divisor : whole / divisor;
    }

    /** What acts change and slots keep. */
    private static final class State {
        private final int[] stone = new int[MOST_MULES];
        private final int[] kind = new int[MOST_MULES];
        private final int[] shown = new int[MOST_MULES];
        private int hour = 0;
        private int broken = 0;
    }

    private static final class Text {
        private static final int MULE = 'M', ARTICLE = 'A', PART = 4;

        private final int[] letters = new int[MOST_BYTES];
        private int length = 0;

        private boolean put(int letter) {
            if (length < 0 || length >= letters.length) {
                return false;
            }
            letters[length] = letter;
            length++;
            return true;
        }

        private int letter(int at) {
            return at >= 0 && at < length && at < letters.length ? letters[at] : 0;
        }

        private int figure(int at) {
            return letter(at) - '0';
        }

        private int firstFault() {
            int mules = 0;
            int articles = 0;
            int kind = MULE;
            for (int at = 0; at < length; at++) {
                int letter = letter(at);
                boolean ofArticle = letter == ARTICLE && articles < MOST_ARTICLES;
                boolean ofMule = letter == MULE && mules < MOST_MULES;
                if (at == 0) {
                    if (letter != MULE) {
                        return at;
                    }
                } else if (at % PART == 1) {
                    if (!ofArticle && !ofMule) {
                        return at;
                    }
                    kind = letter;
                    articles += ofArticle ? 1 : 0;
                    mules += ofMule ? 1 : 0;
                } else if (letter < '0' || letter >= '0' + figuresAt(at, kind)) {
                    return at;
                }
            }
            return length % PART == 1 ? NONE : length;
        }

        /** How many figures, from 0, may stand at a place within a part. */
        private static int figuresAt(int at, int kind) {
            switch (at % PART) {
                case 2: return STONES;
                case 3: return kind == ARTICLE ? SORTS : COATS;
                default: return kind == ARTICLE ? VALUES : KINDS;
            }
        }
    }

    private static final class Law {
        private static final int BY_COAT = 0, BY_HOUR = 1, BY_WAY = 2, BY_OTHERS = 3;

        private final int[] stone = new int[MOST_ARTICLES];
        private final int[] sort = new int[MOST_ARTICLES];
        private final int[] value = new int[MOST_ARTICLES];
        private int count = 0;

        private void add(int ofStone, int ofSort, int ofValue) {
            if (count < 0 || count >= MOST_ARTICLES) {
                return;
            }
            stone[count] = ofStone;
            sort[count] = ofSort;
            value[count] = ofValue;
            count++;
        }

        private int all() {
            return (1 << count) - 1;
        }

        private int last() {
            return count > 0 ? 1 << (count - 1) : 0;
        }

        private boolean forbids(int article, int onto, int coat, int hour, int way, int others) {
            if (article < 0 || article >= count || article >= MOST_ARTICLES || stone[article] != onto) {
                return false;
            }
            if (sort[article] == BY_OTHERS) {
                return others < value[article] % 5;
            }
            return forbidsAlone(sort[article], value[article], coat, hour, way);
        }

        /** The sorts that do not look at other mules; hour is what is left by 10. */
        private static boolean forbidsAlone(int sort, int value, int coat, int hour, int way) {
            switch (sort) {
                case BY_COAT: return coat == value % COATS;
                case BY_HOUR: return hour < value;
                case BY_WAY: return way != value % 2;
                default: return false;
            }
        }
    }

    /** What is seen of old mules, for the lost law. */
    private static final class Sightings {
        private final int[] stone = new int[MOST_SEEN];
        private final int[] coat = new int[MOST_SEEN];
        private final int[] hour = new int[MOST_SEEN];
        private final int[] south = new int[MOST_SEEN];
        private final int[] balked = new int[MOST_SEEN];
        private int count = 0;

        private boolean add(int ofStone, int ofCoat, int ofHour, int fromSouth, int didBalk) {
            if (count < 0 || count >= MOST_SEEN) {
                return false;
            }
            stone[count] = ofStone;
            coat[count] = ofCoat;
            hour[count] = ofHour;
            south[count] = fromSouth;
            balked[count] = didBalk;
            count++;
            return true;
        }

        private boolean agreeWith(int ofStone, int sort, int value) {
            for (int i = 0; i < count && i < MOST_SEEN; i++) {
                boolean forbidden = Law.forbidsAlone(sort, value, coat[i], hour[i], south[i]);
                if (stone[i] == ofStone && forbidden != (balked[i] == 1)) {
                    return false;
                }
            }
            return true;
        }
    }
}
