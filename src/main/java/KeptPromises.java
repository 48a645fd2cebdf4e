import java.util.Arrays;

/** Promises that can't all be kept; ../shared/DOC.md tells what each call answers. */
public final class KeptPromises {
    public static final int NONE = -1;

    private static final int PROMISE = 0;
    private static final int ACT = 1;
    private static final int WHOLE = 2;
    private static final int AGAIN = 3;
    private static final int ONCE = 4;
    private static final int NEVER = 5;
    private static final int FREE = 6;

    private static final int HOURS = 12;
    private static final int FORKS = 3;
    private static final int OUTCOMES = 8;
    private static final int THINGS = 4;
    private static final int PEOPLE = 6;
    private static final int MOST_HANDS = 2;
    private static final int MOST_PROMISES = 9;
    private static final int MOST_WORKS = 6;
    private static final int MOST_OTHERS = 3;
    private static final int MOST_SPANS = 3;
    private static final int MOST_OWED = 99;

    private static final int SHELVES = 8;
    private static final int MOST_CELLS = 60;
    private static final int SORTS = 4;
    private static final int ROW_MARK = 100;

    private static final int NOBODY = -1;
    private static final int OTHER = -2;
    private static final int NOTHING = -3;
    private static final int BELOW = -4;
    private static final int BEYOND = -5;
    private static final int WRONG = -6;
    private static final int ROOM = -7;
    private static final int FITS = 0;
    private static final int NO_SPARE = -1000;

    private static final int NEEDS = 0;
    private static final int COSTS = 1;
    private static final int ENDS = 2;
    private static final int KEPT_BODIES = 20;
    private static final int DEEPEST_BODY = 20;

    private static final int WHY_OPEN = 1;
    private static final int WHY_HANDS = 2;
    private static final int WHY_THING = 3;
    private static final int WHY_FREE = 4;
    private static final int WHY_NEVER = 5;

    /** What each shelf holds, told as holds() tells it. */
    private final int[] content = new int[SHELVES];
    private final int[] sizes = new int[SHELVES];
    private final long[][] cells = new long[SHELVES][MOST_CELLS];
    private final int[] refusals = new int[8];
    private final int[] trail = new int[KEPT_BODIES];
    private final Deal deal = new Deal();
    private final Deal kept = new Deal();
    private final Reader reader = new Reader();
    private final Search search = new Search();
    private final Breaking breaking = new Breaking();
    private final Telling telling = new Telling();
    private boolean hasImage = false;
    private int faultPlace = NONE;
    private int bodies = 0;

    public KeptPromises() {
        Arrays.fill(content, NONE);
    }

    // ---- shelves and rows

    public int row(int s, int sort, int n) {
        if (!isShelf(s)) {
            return refuse(NOBODY);
        }
        if (n < 0) {
            return refuse(BELOW);
        }
        if (sort < 0 || sort >= SORTS) {
            return refuse(WRONG);
        }
        if (n > MOST_CELLS) {
            return refuse(ROOM);
        }
        content[s] = ROW_MARK + sort;
        sizes[s] = n;
        Arrays.fill(cells[s], 0L);
        return 1;
    }

    public int set(int s, int i, long v) {
        int why = rowRefusal(s);
        if (why != FITS) {
            return refuse(why);
        }
        if (i < 0 || i >= sizes[s]) {
            return refuse(BEYOND);
        }
        cells[s][i] = lowest(content[s] - ROW_MARK, v);
        return 1;
    }

    public int copy(int p, int q, int i, int j, int n) {
        int why = copyRefusal(p, q);
        if (why != FITS) {
            return refuse(why);
        }
        if (n < 0) {
            return refuse(BELOW);
        }
        if (!isPart(p, i, n) || !isPart(q, j, n)) {
            return refuse(BEYOND);
        }
        System.arraycopy(cells[p], i, cells[q], j, n);
        return 1;
    }

    public long element(int s, int i) {
        if (!isShelf(s) || content[s] < ROW_MARK || i < 0 || i >= sizes[s]) {
            return 0L;
        }
        return cells[s][i];
    }

    public int put(int s, int promise) {
        if (!isShelf(s) || (promise != NONE && !deal.has(promise))) {
            return refuse(NOBODY);
        }
        content[s] = promise;
        return promise == NONE ? 0 : 1;
    }

    public int holds(int s) {
        return isShelf(s) ? content[s] : NONE;
    }

    public int says(int s, int kind) {
        if (!isShelf(s) || kind < PROMISE || kind > FREE) {
            return refuse(NOBODY);
        }
        int promise = content[s];
        if (promise >= ROW_MARK) {
            return refuse(OTHER);
        }
        if (!deal.has(promise)) {
            return refuse(NOTHING);
        }
        if (!isUnder(deal.kind[promise], kind)) {
            return refuse(OTHER);
        }
        return sayingAs(promise, kind);
    }

    // ---- promises

    public int promise(int s) {
        int why = readingRefusal(s);
        if (why == FITS && !deal.hasRoomFor(reader.kind)) {
            why = ROOM;
        }
        if (why != FITS) {
            return refuse(why);
        }
        return deal.add(reader);
    }

    public int fault() {
        return faultPlace;
    }

    public int promiseOf(int promise, int what) {
        if (!deal.has(promise)) {
            return refuse(BEYOND);
        }
        switch (what) {
            case 0: return deal.kind[promise];
            case 1: return deal.from[promise];
            case 2: return deal.till[promise];
            case 3: return deal.thing[promise];
            case 4: return deal.after[promise];
            case 5: return deal.fork[promise];
            case 6: return deal.how[promise];
            case 7: return deal.owing[promise];
            case 8: return deal.whom[promise];
            case 9: return deal.length[promise];
            case 10: return deal.left[promise];
            case 11: return (deal.lostOnes >> promise) & 1;
            default: return refuse(BEYOND);
        }
    }

    public int hands(int hour, int n) {
        if (!isHour(hour)) {
            return refuse(NOBODY);
        }
        if (n < 0 || n > MOST_HANDS) {
            return refuse(WRONG);
        }
        int was = deal.handsIn[hour];
        deal.handsIn[hour] = n;
        return was;
    }

    public int known(int fork, int hour) {
        if (!isFork(fork) || !isHour(hour)) {
            return refuse(NOBODY);
        }
        int was = deal.knownFrom[fork];
        deal.knownFrom[fork] = hour;
        return was;
    }

    public int turn(int fork, int v) {
        if (!isFork(fork)) {
            return refuse(NOBODY);
        }
        if (v < 0 || v > 1 || deal.knownFrom[fork] < deal.now || deal.hasBegunBy(fork)) {
            return refuse(WRONG);
        }
        int was = (deal.turned >> fork) & 1;
        deal.turned = (deal.turned & ~(1 << fork)) | (v << fork);
        return was;
    }

    public int swap(int promise, int other) {
        if (!deal.isWork(promise) || (other != NONE && !deal.isWork(other))) {
            return refuse(NOBODY) - 10;
        }
        if (promise == other) {
            return refuse(WRONG) - 10;
        }
        int was = deal.after[promise];
        deal.after[promise] = other;
        return was;
    }

    // ---- what can be kept

    public int can(int outcome) {
        if (!isOutcome(outcome)) {
            return refuse(WRONG);
        }
        return isKept(deal.everyone(), outcome) ? 1 : 0;
    }

    public int hour(int outcome, int hour) {
        if (!isOutcome(outcome) || hour < deal.now || hour >= HOURS) {
            return refuse(BEYOND);
        }
        search.prepare(deal, deal.everyone(), 1, outcome);
        int set = search.firstSetOf(hour);
        return set == NONE ? refuse(BEYOND) : set;
    }

    public int all() {
        return bearsAll() ? 1 : 0;
    }

    public int begin() {
        if (deal.now >= HOURS || !bearsAll()) {
            return refuse(BEYOND);
        }
        int set = search.firstSetOf(deal.now);
        return set == NONE ? refuse(BEYOND) : set;
    }

    public int trap() {
        int told = deal.toldForks();
        for (int outcome = 0; outcome < OUTCOMES; outcome++) {
            if (((outcome ^ deal.turned) & told) == 0 && !isKept(deal.everyone(), outcome)) {
                return outcome;
            }
        }
        return NONE;
    }

    // ---- what can't be kept

    public int quarrel(int outcome) {
        if (!isOutcome(outcome)) {
            return refuse(WRONG);
        }
        int set = deal.everyone();
        if (isKept(set, outcome)) {
            return 0;
        }
        for (int i = 0; i < deal.count; i++) {
            int without = set & ~(1 << i);
            if (!isKept(without, outcome)) {
                set = without;
            }
        }
        return set;
    }

    public int dear(int outcome) {
        if (!isOutcome(outcome)) {
            return refuse(WRONG);
        }
        return breaking.least(deal, search, outcome, false);
    }

    public int fewest(int outcome) {
        if (!isOutcome(outcome)) {
            return refuse(WRONG);
        }
        return breaking.least(deal, search, outcome, true);
    }

    public int ends(int promise, int outcome) {
        if (!deal.isWork(promise) || !isOutcome(outcome)
                || deal.left[promise] != deal.length[promise]) {
            return refuse(BEYOND);
        }
        int first = NONE;
        for (int h = deal.now; h < HOURS && first == NONE; h++) {
            if (canBegin(promise, outcome, h)) {
                first = h;
            }
        }
        if (first == NONE) {
            return refuse(BEYOND);
        }
        int last = first;
        for (int h = HOURS - 1; h > first && last == first; h--) {
            if (canBegin(promise, outcome, h)) {
                last = h;
            }
        }
        return 100 * last + first;
    }

    public int must(int outcome) {
        if (!isOutcome(outcome) || deal.now >= HOURS) {
            return refuse(BEYOND);
        }
        search.prepare(deal, deal.everyone(), 1, outcome);
        int set = search.commonSetNow();
        return set == NONE ? refuse(BEYOND) : set;
    }

    public int spare(int outcome) {
        if (!isOutcome(outcome)) {
            refuse(WRONG);
            return NO_SPARE;
        }
        int sum = 0;
        for (int h = deal.now; h < HOURS; h++) {
            sum += deal.handsIn[h];
        }
        for (int i = 0; i < deal.count; i++) {
            if (deal.isWork(i) && deal.isAsked(i, outcome) && !deal.isLost(i)) {
                sum -= deal.left[i];
            }
        }
        return sum;
    }

    public int doomed(int promise, int outcome) {
        if (!deal.isWork(promise)) {
            return refuse(NOBODY);
        }
        if (!isOutcome(outcome)) {
            return refuse(WRONG);
        }
        return isKept(deal.chainOf(promise), outcome) ? 0 : 1;
    }

    public int give(int s) {
        int why = readingRefusal(s);
        if (why == FITS && !deal.hasRoomFor(reader.kind)) {
            why = ROOM;
        }
        if (why != FITS) {
            return refuse(why);
        }
        deal.add(reader);
        boolean borne = bearsAll();
        deal.dropLast();
        return borne ? 1 : 0;
    }

    public int many(int s) {
        int why = readingRefusal(s);
        if (why != FITS) {
            return refuse(why);
        }
        int borne = 0;
        int added = 0;
        while (added == borne && added < MOST_PROMISES && deal.hasRoomFor(reader.kind)) {
            deal.add(reader);
            added++;
            if (bearsAll()) {
                borne++;
            }
        }
        for (int i = 0; i < added; i++) {
            deal.dropLast();
        }
        return borne;
    }

    public int ring() {
        return deal.ringOnes();
    }

    public int opening() {
        int rest = deal.ringOnes();
        int rings = 0;
        for (int i = 0; i < deal.count; i++) {
            if (((rest >> i) & 1) != 0) {
                rings++;
                rest &= ~deal.chainOf(i);
            }
        }
        return rings;
    }

    // ---- rows of hours told by hand

    public int judge(int s, int outcome) {
        int why = handRefusal(s, outcome, 0);
        if (why != FITS) {
            return refuse(why) - 10;
        }
        telling.tell(deal, cells[s], sizes[s], outcome);
        return telling.clash;
    }

    public int lost(int s, int outcome) {
        int why = handRefusal(s, outcome, 0);
        if (why != FITS) {
            return refuse(why);
        }
        telling.tell(deal, cells[s], sizes[s], outcome);
        return telling.lostOnes;
    }

    public int owed(int s, int outcome, int whom) {
        int why = handRefusal(s, outcome, whom);
        if (why != FITS) {
            return refuse(why);
        }
        telling.tell(deal, cells[s], sizes[s], outcome);
        return deal.owedBy(telling.lostOnes, whom);
    }

    // ---- hours that go by

    public int work(int set) {
        if (deal.now >= HOURS
                || deal.whyNot(set, deal.now, deal.turned, deal.left, deal.lostOnes) != FITS) {
            return refuse(WRONG);
        }
        int gone = deal.pass(set, deal.now, deal.turned, deal.left, deal.lostOnes);
        deal.lostOnes |= gone;
        deal.now++;
        return gone;
    }

    public int debt(int whom) {
        if (!isPerson(whom)) {
            return refuse(NOBODY);
        }
        return deal.owedBy(deal.lostOnes, whom);
    }

    public int mend(int promise, int how) {
        if (!deal.has(promise)) {
            return refuse(NOBODY);
        }
        if (how < 0 || how > 2 || !deal.isLost(promise)) {
            return refuse(WRONG);
        }
        int was = deal.owing[promise];
        int is = how == 0 ? was / 2 : how == 1 ? Math.min(was * 2, MOST_OWED) : 0;
        deal.owing[promise] = is;
        return is;
    }

    // ---- acts

    public int act(int promise, int act, int x) {
        bodies = 0;
        if (!deal.has(promise) || act < NEEDS || act > ENDS) {
            return 0;
        }
        return callAct(promise, act, x, 0);
    }

    public int trace(int i) {
        return i >= 0 && i < bodies && i < KEPT_BODIES ? trail[i] : NONE;
    }

    // ---- the image, and what there is

    public int image() {
        kept.takeFrom(deal);
        hasImage = true;
        return deal.count;
    }

    public int restore() {
        if (!hasImage) {
            return refuse(WRONG);
        }
        deal.takeFrom(kept);
        for (int s = 0; s < SHELVES; s++) {
            if (content[s] < ROW_MARK && !deal.has(content[s])) {
                content[s] = NONE;
            }
        }
        return deal.count;
    }

    public int status(int what) {
        switch (what) {
            case 0: return deal.count;
            case 1: return deal.works;
            case 2: return Integer.bitCount(deal.lostOnes);
            case 3: return deal.now;
            case 4: return deal.turned;
            case 5: return bodies;
            default: return what >= 11 && what <= 17 ? refusals[what - 10] : NONE;
        }
    }

    // ---- refusals

    private int refuse(int why) {
        int at = -why;
        if (at > 0 && at < refusals.length) {
            refusals[at]++;
        }
        return why;
    }

    private int rowRefusal(int s) {
        if (!isShelf(s)) {
            return NOBODY;
        }
        if (content[s] >= ROW_MARK) {
            return FITS;
        }
        return content[s] == NONE ? NOTHING : OTHER;
    }

    private int copyRefusal(int p, int q) {
        int one = rowRefusal(p);
        int two = rowRefusal(q);
        if (one == NOBODY || two == NOBODY) {
            return NOBODY;
        }
        if (one == OTHER || two == OTHER) {
            return OTHER;
        }
        if (one == NOTHING || two == NOTHING) {
            return NOTHING;
        }
        return content[p] == content[q] ? FITS : OTHER;
    }

    /** Reads the row, and keeps its fault; what is read stands in the reader. */
    private int readingRefusal(int s) {
        int why = rowRefusal(s);
        if (why != FITS) {
            return why;
        }
        faultPlace = reader.readPromise(deal, cells[s], sizes[s]);
        return faultPlace != NONE || reader.from < deal.now ? WRONG : FITS;
    }

    private int handRefusal(int s, int outcome, int whom) {
        if (!isPerson(whom)) {
            return NOBODY;
        }
        int why = rowRefusal(s);
        if (why == FITS && !isOutcome(outcome)) {
            why = WRONG;
        }
        return why;
    }

    private static boolean isShelf(int s) {
        return s >= 0 && s < SHELVES;
    }

    private static boolean isHour(int hour) {
        return hour >= 0 && hour < HOURS;
    }

    private static boolean isFork(int fork) {
        return fork >= 0 && fork < FORKS;
    }

    private static boolean isOutcome(int outcome) {
        return outcome >= 0 && outcome < OUTCOMES;
    }

    private static boolean isPerson(int whom) {
        return whom >= 0 && whom < PEOPLE;
    }

    private boolean isPart(int s, int i, int n) {
        return i >= 0 && (long) i + n <= sizes[s];
    }

    private static long lowest(int sort, long v) {
        switch (sort) {
            case 0: return (byte) v;
            case 1: return (short) v;
            case 2: return (int) v;
            default: return v;
        }
    }

    // ---- kinds and their bodies

    private static int kindAbove(int kind) {
        if (kind == PROMISE) {
            return NONE;
        }
        return kind == ACT || kind == NEVER || kind == FREE ? PROMISE : ACT;
    }

    private static boolean isUnder(int kind, int wanted) {
        return kind == wanted || wanted == PROMISE || kindAbove(kind) == wanted;
    }

    private int sayingAs(int promise, int kind) {
        switch (kind) {
            case ACT:
            case ONCE: return deal.length[promise];
            case WHOLE:
            case AGAIN: return deal.left[promise];
            case NEVER: return deal.thing[promise];
            case FREE: return deal.till[promise] - deal.from[promise] + 1;
            default: return deal.whom[promise];
        }
    }

    /** The body that a kind has of its own for an act; NONE: it has none. */
    private static int ownBody(int kind, int act) {
        switch (kind) {
            case PROMISE: return 10 + act;
            case ACT: return act == NEEDS ? 20 : NONE;
            case WHOLE: return act == COSTS ? 30 : NONE;
            case AGAIN: return act == ENDS ? 40 : NONE;
            case ONCE: return act == NEEDS ? 50 : NONE;
            case NEVER: return act == ENDS ? 60 : NONE;
            case FREE: return act == COSTS ? 70 : NONE;
            default: return NONE;
        }
    }

    private static int bodyFrom(int kind, int act) {
        int at = kind;
        for (int step = 0; step < 3 && at != PROMISE && ownBody(at, act) == NONE; step++) {
            at = kindAbove(at);
        }
        return ownBody(at, act);
    }

    private int callAct(int promise, int act, int x, int depth) {
        return runBody(bodyFrom(deal.kind[promise], act), promise, x, depth);
    }

    private int callAbove(int kind, int promise, int act, int x, int depth) {
        return runBody(bodyFrom(kindAbove(kind), act), promise, x, depth);
    }

    private int runBody(int body, int promise, int x, int depth) {
        if (depth > DEEPEST_BODY) {
            return 0;
        }
        if (bodies < KEPT_BODIES) {
            trail[bodies] = body;
        }
        bodies++;
        int owing = deal.owing[promise];
        int next = depth + 1;
        switch (body) {
            case 10: return x + promise;
            case 11: return callAct(promise, NEEDS, x, next) * 2;
            case 12: return callAct(promise, COSTS, x, next)
                    ^ callAct(promise, NEEDS, x - owing, next);
            case 20: return callAbove(ACT, promise, NEEDS, x, next) * 3;
            case 30: return callAbove(WHOLE, promise, COSTS, x, next) + owing;
            case 40: return callAbove(AGAIN, promise, ENDS, x + 1, next);
            case 50: return -callAbove(ONCE, promise, NEEDS, x, next);
            case 60: return callAbove(NEVER, promise, ENDS, x, next) - promise;
            case 70: return callAbove(FREE, promise, COSTS, x, next) ^ 5;
            default: return 0;
        }
    }

    // ---- searches

    private boolean isKept(int set, int outcome) {
        search.prepare(deal, set, 1, outcome);
        return search.succeeds();
    }

    private boolean canBegin(int promise, int outcome, int hour) {
        if (!deal.covers(promise, hour)) {
            return false;
        }
        search.prepare(deal, deal.everyone(), 1, outcome);
        return search.pin(promise, hour) && search.succeeds();
    }

    /** Leaves the search standing for all outcomes if it answers yes. */
    private boolean bearsAll() {
        // Each outcome alone is told fast, and most often it is one of them that fails.
        int fixed = deal.toldForks() | ~deal.forksInUse();
        for (int outcome = 0; outcome < OUTCOMES; outcome++) {
            if (((outcome ^ deal.turned) & fixed & (OUTCOMES - 1)) == 0
                    && !isKept(deal.everyone(), outcome)) {
                return false;
            }
        }
        search.prepare(deal, deal.everyone(), OUTCOMES, 0);
        return search.succeeds();
    }

    /** The promises, the hours and how things stand: all that an image holds. */
    private static final class Deal {
        private final int[] kind = new int[MOST_PROMISES];
        private final int[] from = new int[MOST_PROMISES];
        private final int[] till = new int[MOST_PROMISES];
        private final int[] thing = new int[MOST_PROMISES];
        private final int[] after = new int[MOST_PROMISES];
        private final int[] fork = new int[MOST_PROMISES];
        private final int[] how = new int[MOST_PROMISES];
        private final int[] owing = new int[MOST_PROMISES];
        private final int[] whom = new int[MOST_PROMISES];
        private final int[] length = new int[MOST_PROMISES];
        private final int[] left = new int[MOST_PROMISES];
        private final int[] span = new int[MOST_PROMISES];
        private final int[] handsIn = new int[HOURS];
        private final int[] knownFrom = new int[FORKS];
        private int count = 0;
        private int works = 0;
        private int lostOnes = 0;
        private int now = 0;
        private int turned = 0;

        private Deal() {
            Arrays.fill(handsIn, 1);
        }

        private void takeFrom(Deal other) {
            take(other.kind, kind);
            take(other.from, from);
            take(other.till, till);
            take(other.thing, thing);
            take(other.after, after);
            take(other.fork, fork);
            take(other.how, how);
            take(other.owing, owing);
            take(other.whom, whom);
            take(other.length, length);
            take(other.left, left);
            take(other.span, span);
            take(other.handsIn, handsIn);
            take(other.knownFrom, knownFrom);
            count = other.count;
            works = other.works;
            lostOnes = other.lostOnes;
            now = other.now;
            turned = other.turned;
        }

        private static void take(int[] source, int[] target) {
            System.arraycopy(source, 0, target, 0, Math.min(source.length, target.length));
        }

        private boolean hasRoomFor(int newKind) {
            if (count >= MOST_PROMISES) {
                return false;
            }
            return isWorkKind(newKind) ? works < MOST_WORKS : count - works < MOST_OTHERS;
        }

        /** There must be room. */
        private int add(Reader draft) {
            int i = count;
            if (i >= MOST_PROMISES) {
                return NONE;
            }
            kind[i] = draft.kind;
            from[i] = draft.from;
            till[i] = draft.till;
            thing[i] = draft.thing;
            after[i] = draft.after;
            fork[i] = draft.fork;
            how[i] = draft.how;
            owing[i] = draft.owing;
            whom[i] = draft.whom;
            length[i] = draft.lengthOf();
            left[i] = length[i];
            span[i] = draft.kind == AGAIN ? draft.number : 0;
            count++;
            works += isWorkKind(draft.kind) ? 1 : 0;
            return i;
        }

        private void dropLast() {
            if (count > 0) {
                count--;
                works -= isWorkKind(kind[count]) ? 1 : 0;
            }
        }

        private static boolean isWorkKind(int kind) {
            return kind >= ACT && kind <= ONCE;
        }

        private boolean has(int i) {
            return i >= 0 && i < count;
        }

        private boolean isWork(int i) {
            return has(i) && isWorkKind(kind[i]);
        }

        private int everyone() {
            return (1 << count) - 1;
        }

        private boolean isLost(int i) {
            return ((lostOnes >> i) & 1) != 0;
        }

        private boolean isAsked(int i, int outcome) {
            return fork[i] == NONE || ((outcome >> fork[i]) & 1) == how[i];
        }

        private boolean isKnownIn(int i, int hour) {
            return fork[i] == NONE || knownFrom[fork[i]] <= hour;
        }

        private boolean covers(int i, int hour) {
            return from[i] <= hour && hour <= till[i];
        }

        /** Which span of an AGAIN the hour is in, from 0 on. */
        private int spanAt(int i, int hour) {
            return span[i] > 0 ? (hour - from[i]) / span[i] : 0;
        }

        private boolean endsSpan(int i, int hour) {
            return covers(i, hour) && (hour == till[i] || spanAt(i, hour + 1) != spanAt(i, hour));
        }

        /** The forks that are known by now. */
        private int toldForks() {
            int told = 0;
            for (int f = 0; f < FORKS; f++) {
                told |= knownFrom[f] <= now ? 1 << f : 0;
            }
            return told;
        }

        private int forksInUse() {
            int used = 0;
            for (int i = 0; i < count; i++) {
                used |= fork[i] == NONE ? 0 : 1 << fork[i];
            }
            return used;
        }

        private boolean hasBegunBy(int aFork) {
            for (int i = 0; i < count; i++) {
                if (fork[i] == aFork && from[i] < now) {
                    return true;
                }
            }
            return false;
        }

        /** A work, the works that it is after, and those that these are after. */
        private int chainOf(int i) {
            int chain = 0;
            int at = i;
            for (int step = 0; step < MOST_PROMISES && has(at); step++) {
                chain |= 1 << at;
                at = after[at];
            }
            return chain;
        }

        private int ringOnes() {
            int ring = 0;
            for (int i = 0; i < count; i++) {
                if (isWork(i) && after[i] != NONE && ((chainOf(after[i]) >> i) & 1) != 0) {
                    ring |= 1 << i;
                }
            }
            return ring;
        }

        private int owedBy(int ones, int person) {
            int sum = 0;
            for (int i = 0; i < count; i++) {
                if (((ones >> i) & 1) != 0 && whom[i] == person) {
                    sum += owing[i];
                }
            }
            return sum;
        }

        private boolean isOpen(int i, int hour, int outcome, int[] lefts, int gone) {
            if (!covers(i, hour) || !isAsked(i, outcome) || !isKnownIn(i, hour)
                    || lefts[i] <= 0 || ((gone >> i) & 1) != 0) {
                return false;
            }
            int other = after[i];
            if (has(other) && (lefts[other] > 0 || ((gone >> other) & 1) != 0)) {
                return false;
            }
            // Spans are done one after the other, so how many are done tells which.
            return kind[i] != AGAIN || length[i] - lefts[i] == spanAt(i, hour);
        }

        private boolean areOpen(int set, int hour, int outcome, int[] lefts, int gone) {
            if ((set & ~everyone()) != 0 || (set & ringOnes()) != 0) {
                return false;
            }
            for (int i = 0; i < count; i++) {
                if (((set >> i) & 1) != 0
                        && !(isWork(i) && isOpen(i, hour, outcome, lefts, gone))) {
                    return false;
                }
            }
            return true;
        }

        /** Why a set may not be done in an hour (the least that holds); FITS: it may. */
        private int whyNot(int set, int hour, int outcome, int[] lefts, int gone) {
            if (!areOpen(set, hour, outcome, lefts, gone)) {
                return WHY_OPEN;
            }
            if (Integer.bitCount(set) > handsIn[hour]) {
                return WHY_HANDS;
            }
            if (hasThingTwice(set)) {
                return WHY_THING;
            }
            if (set != 0 && brokenOnes(FREE, set, hour, outcome) != 0) {
                return WHY_FREE;
            }
            return brokenOnes(NEVER, set, hour, outcome) != 0 ? WHY_NEVER : FITS;
        }

        private int thingsOf(int set) {
            int things = 0;
            for (int i = 0; i < count; i++) {
                if (((set >> i) & 1) != 0 && thing[i] != NONE) {
                    things |= 1 << thing[i];
                }
            }
            return things;
        }

        private boolean hasThingTwice(int set) {
            int things = 0;
            for (int i = 0; i < count; i++) {
                int own = thingsOf(set & (1 << i));
                if ((things & own) != 0) {
                    return true;
                }
                things |= own;
            }
            return false;
        }

        /** The FREE or NEVER ones that a set, which isn't empty, would break in an hour. */
        private int brokenOnes(int aKind, int set, int hour, int outcome) {
            int broken = 0;
            int things = thingsOf(set);
            for (int i = 0; i < count; i++) {
                if (kind[i] == aKind && covers(i, hour) && isAsked(i, outcome)
                        && (aKind == FREE || ((things >> thing[i]) & 1) != 0)) {
                    broken |= 1 << i;
                }
            }
            return broken;
        }

        /** A set is done and the hour goes by: the works that get lost in it. */
        private int pass(int set, int hour, int outcome, int[] lefts, int gone) {
            int lost = 0;
            for (int i = 0; i < count; i++) {
                boolean done = ((set >> i) & 1) != 0;
                boolean begun = lefts[i] < length[i];
                lefts[i] -= done ? 1 : 0;
                if (isWork(i) && isAsked(i, outcome) && lefts[i] > 0 && ((gone >> i) & 1) == 0
                        && (till[i] == hour || (kind[i] == WHOLE && begun && !done)
                        || missesSpan(i, hour, lefts[i]))) {
                    lost |= 1 << i;
                }
            }
            return lost;
        }

        private boolean missesSpan(int i, int hour, int leftNow) {
            return kind[i] == AGAIN && endsSpan(i, hour)
                    && length[i] - leftNow <= spanAt(i, hour);
        }
    }

    /** Reads a row of letters: what it read stands in its fields. */
    private static final class Reader {
        private static final int WITH = 1;
        private static final int AFTER = 2;
        private static final int IF = 3;
        private static final int OWE = 4;
        private static final int FOR = 5;

        private long[] letters = new long[0];
        private int end = 0;
        private int at = 0;
        private int bad = NONE;
        private int kind = NONE;
        private int number = 0;
        private int from = 0;
        private int till = 0;
        private int thing = NONE;
        private int after = NONE;
        private int fork = NONE;
        private int how = 0;
        private int owing = 0;
        private int whom = 0;

        /** The fault, or NONE. */
        private int readPromise(Deal deal, long[] row, int size) {
            letters = row;
            end = Math.min(size, row.length);
            at = 0;
            bad = NONE;
            thing = NONE;
            after = NONE;
            fork = NONE;
            how = 0;
            owing = 0;
            whom = 0;
            if (readHead() && readHours()) {
                readExtras(deal);
            }
            return bad;
        }

        private int lengthOf() {
            if (kind == NEVER || kind == FREE) {
                return 0;
            }
            return kind == AGAIN ? spansTill(till) : number;
        }

        private int spansTill(int last) {
            return number > 0 ? (last - from) / number + 1 : 0;
        }

        private boolean isBadAt(int place) {
            bad = place;
            return false;
        }

        /** The letter at the place; NONE beyond the end. */
        private int letterAt(int place) {
            return place >= 0 && place < end ? (int) letters[place] : NONE;
        }

        private boolean reads(String word) {
            for (int i = 0; i < word.length(); i++) {
                if (at >= end || (int) letters[at] != word.charAt(i)) {
                    return isBadAt(at);
                }
                at++;
            }
            return true;
        }

        private boolean isDigitHere() {
            return at < end && (int) letters[at] >= '0' && (int) letters[at] <= '9';
        }

        /** A number of so many digits at the most, from low to high; NONE: a fault. */
        private int numberOf(int digits, int low, int high) {
            int start = at;
            int value = 0;
            for (int i = 0; i < digits && isDigitHere(); i++) {
                value = value * 10 + (int) letters[at] - '0';
                at++;
            }
            if (at == start || value < low || value > high) {
                isBadAt(start);
                return NONE;
            }
            return value;
        }

        private boolean readHead() {
            switch (letterAt(0)) {
                case 'd': return readHeadAs(ACT, "do ", 1, 3);
                case 'w': return readHeadAs(WHOLE, "whole ", 1, 3);
                case 'o': return readHeadAs(ONCE, "once ", 1, 3);
                case 'a': return readHeadAs(AGAIN, "again ", 1, 6);
                case 'n': return readHeadAs(NEVER, "never ", 0, THINGS - 1);
                case 'f':
                    kind = FREE;
                    number = 0;
                    return reads("free");
                default: return isBadAt(0);
            }
        }

        private boolean readHeadAs(int aKind, String word, int low, int high) {
            kind = aKind;
            if (!reads(word)) {
                return false;
            }
            number = numberOf(1, low, high);
            if (kind == NEVER) {
                thing = number;
            }
            return bad == NONE;
        }

        private boolean readHours() {
            if (!reads(" from ")) {
                return false;
            }
            from = numberOf(2, 0, HOURS - 1);
            if (bad != NONE || !reads(" to ")) {
                return false;
            }
            int start = at;
            till = numberOf(2, from, HOURS - 1);
            if (bad != NONE) {
                return false;
            }
            return hasLengthTill(till) || isBadAt(start);
        }

        private boolean hasLengthTill(int last) {
            if (kind == NEVER || kind == FREE) {
                return true;
            }
            return kind == AGAIN ? spansTill(last) <= MOST_SPANS : last - from + 1 >= number;
        }

        private void readExtras(Deal deal) {
            int latest = 0;
            for (int i = 0; i < FOR && latest < FOR && at < end && reads(" "); i++) {
                int extra = extraAt(at);
                if (extra <= latest || !mayFollow(latest, extra)) {
                    bad = at;
                    return;
                }
                readExtra(deal, extra);
                latest = bad == NONE ? extra : FOR;
            }
            if (bad == NONE && (at < end || (kind == ONCE && fork == NONE))) {
                bad = at;
            }
        }

        private int extraAt(int place) {
            switch (letterAt(place)) {
                case 'w': return WITH;
                case 'a': return AFTER;
                case 'i': return IF;
                case 'o': return OWE;
                case 'f': return FOR;
                default: return NONE;
            }
        }

        private boolean mayFollow(int latest, int extra) {
            if (kind == NEVER || kind == FREE) {
                return extra >= IF;
            }
            return kind != ONCE || latest >= IF || extra <= IF;
        }

        private void readExtra(Deal deal, int extra) {
            switch (extra) {
                case WITH:
                    thing = reads("with ") ? numberOf(1, 0, THINGS - 1) : NONE;
                    break;
                case AFTER:
                    readAfter(deal);
                    break;
                case IF:
                    fork = reads("if ") ? numberOf(1, 0, FORKS - 1) : NONE;
                    how = bad == NONE && reads("=") ? numberOf(1, 0, 1) : 0;
                    break;
                case OWE:
                    owing = reads("owe ") ? numberOf(2, 0, MOST_OWED) : 0;
                    break;
                default:
                    whom = reads("for ") ? numberOf(1, 0, PEOPLE - 1) : 0;
                    break;
            }
        }

        private void readAfter(Deal deal) {
            if (!reads("after ")) {
                return;
            }
            int start = at;
            after = numberOf(1, 0, 9);
            if (bad == NONE && !deal.isWork(after)) {
                isBadAt(start);
            }
        }
    }

    /**
     * Looks for sets of hours by which no work gets lost: by one outcome (one group), or for all
     * that may come (a group for each way in which the forks known in an hour turned out).
     * The works that still matter have places 0 to 5, in the order of their numbers; a state
     * holds two bits for each of them, how many hours are left.
     */
    private static final class Search {
        /** All sets of at most two of six, the least first, and what each takes off a state. */
        private static final int[] SETS = {0, 1, 2, 3, 4, 5, 6, 8, 9, 10, 12,
            16, 17, 18, 20, 24, 32, 33, 34, 36, 40, 48};
        private static final int[] TAKES = {0, 1, 4, 5, 16, 17, 20, 64, 65, 68, 80,
            256, 257, 260, 272, 320, 1024, 1025, 1028, 1040, 1088, 1280};
        private static final int NEVER_OPEN = -2;
        private static final int NO_LIMIT = 3;
        private static final int PLACES = (1 << MOST_WORKS) - 1;
        private static final int CARED = MOST_WORKS;
        private static final int SURELY = 2 * MOST_WORKS;
        private static final int FRESH = 3 * MOST_WORKS;
        private static final int UNASKED = 0;
        private static final int MAYBE = 1;
        private static final int SURE = 2;
        private static final int SURE_AND_KNOWN = 3;

        private Deal deal = null;
        private int meant = 0;
        private int groups = 1;
        private int outcome = 0;
        private boolean hopeless = false;
        private int places = 0;
        private int start = 0;
        private int startGroup = 0;
        private int sameThing = 0;
        private int pinHour = NONE;
        private int pinBit = 0;
        private final int[] number = new int[MOST_WORKS];
        private final int[] afterPlace = new int[MOST_WORKS];
        private final int[] order = new int[MOST_WORKS];
        private final int[] deadline = new int[MOST_WORKS];
        /**
         * By group and hour, six bits each: places that may be open; that are asked, perhaps; that
         * surely are; and the forks that get known in the hour.
         */
        private final int[] standings = new int[OUTCOMES * HOURS];
        /** By place and hour: how much has to be left as it begins (NONE: any), and as it ends. */
        private final int[] leftAhead = new int[MOST_WORKS * HOURS];
        private final int[] leftAfter = new int[MOST_WORKS * HOURS];
        private final int[] roomBefore = new int[HOURS + 1];
        private long[] marks = new long[0];

        /** Makes all ready for a set of promises; an outcome counts only if there is one group. */
        private void prepare(Deal aDeal, int set, int groupCount, int anOutcome) {
            deal = aDeal;
            meant = set;
            groups = groupCount > 1 ? OUTCOMES : 1;
            outcome = anOutcome;
            pinHour = NONE;
            pinBit = 0;
            startGroup = groups > 1 ? deal.turned & deal.toldForks() & deal.forksInUse() : 0;
            hopeless = (deal.lostOnes & meant) != 0;
            findPlaces();
            if (hopeless || deal.now >= HOURS) {
                return;
            }
            findAfters(deal.ringOnes());
            findSameThings();
            findDeadlines();
            for (int h = deal.now; h < HOURS; h++) {
                fillLefts(h);
                int fresh = groups > 1 ? freshForks(h) << FRESH : 0;
                for (int g = 0; g < groups; g++) {
                    standings[g * HOURS + h] = fresh | standingsIn(g, h, closedPlaces(g, h));
                }
            }
            makeReady();
        }

        private void makeReady() {
            countRoom();
            hopeless = groups == 1 && lacksHours();
            if (!hopeless) {
                clearMarks();
            }
        }

        private void findPlaces() {
            places = 0;
            start = 0;
            for (int i = 0; i < deal.count && places < MOST_WORKS; i++) {
                if (isMeant(i) && deal.isWork(i) && deal.left[i] > 0 && deal.till[i] >= deal.now
                        && standing(i, startGroup, deal.now) != UNASKED) {
                    number[places] = i;
                    start |= (deal.left[i] & 3) << (2 * places);
                    places++;
                }
            }
        }

        private boolean isMeant(int i) {
            return ((meant >> i) & 1) != 0;
        }

        /** MAYBE: both may come; SURE: asked by the outcome, but that isn't known yet. */
        private int standing(int i, int group, int hour) {
            boolean known = deal.isKnownIn(i, hour);
            if (groups == 1) {
                return !deal.isAsked(i, outcome) ? UNASKED : known ? SURE_AND_KNOWN : SURE;
            }
            if (!known) {
                return MAYBE;
            }
            return deal.isAsked(i, group) ? SURE_AND_KNOWN : UNASKED;
        }

        private int placeOf(int i) {
            for (int p = 0; p < places; p++) {
                if (number[p] == i) {
                    return p;
                }
            }
            return NEVER_OPEN;
        }

        private void findAfters(int ring) {
            for (int p = 0; p < places; p++) {
                int i = number[p];
                int other = deal.after[i];
                if (((ring >> i) & 1) != 0) {
                    afterPlace[p] = NEVER_OPEN;
                } else if (!deal.has(other)) {
                    afterPlace[p] = NONE;
                } else if (!isMeant(other)) {
                    afterPlace[p] = NEVER_OPEN;
                } else {
                    afterPlace[p] = deal.left[other] == 0 ? NONE : placeOf(other);
                }
            }
        }

        private void findSameThings() {
            sameThing = 0;
            for (int k = 0; k < SETS.length; k++) {
                int set = SETS[k];
                if (Integer.bitCount(set) == 2 && set < 1 << places) {
                    int one = deal.thing[number[Integer.numberOfTrailingZeros(set)]];
                    int two = deal.thing[number[31 - Integer.numberOfLeadingZeros(set)]];
                    sameThing |= one != NONE && one == two ? 1 << k : 0;
                }
            }
        }

        /** What another one is after has to be over before that one's last chance. */
        private void findDeadlines() {
            for (int p = 0; p < places; p++) {
                deadline[p] = deal.till[number[p]];
            }
            for (int round = 0; round < places; round++) {
                for (int p = 0; p < places; p++) {
                    int other = afterPlace[p];
                    boolean counts = groups == 1 || deal.fork[number[p]] == NONE;
                    if (other >= 0 && other < places && counts) {
                        int latest = deadline[p] - deal.left[number[p]];
                        deadline[other] = Math.min(deadline[other], latest);
                    }
                }
            }
            for (int p = 0; p < places; p++) {
                int at = p;
                while (at > 0 && deadline[order[at - 1]] > deadline[p]) {
                    order[at] = order[at - 1];
                    at--;
                }
                order[at] = p;
            }
        }

        private void fillLefts(int hour) {
            for (int p = 0; p < places; p++) {
                int i = number[p];
                boolean again = deal.kind[i] == AGAIN;
                int todo = deal.length[i] - deal.spanAt(i, hour);
                int at = p * HOURS + hour;
                leftAhead[at] = again ? todo : NONE;
                leftAfter[at] = deal.till[i] == hour ? 0
                        : again && deal.endsSpan(i, hour) ? todo - 1 : NO_LIMIT;
            }
        }

        private int standingsIn(int group, int hour, int closed) {
            int all = 0;
            for (int p = 0; p < places; p++) {
                int i = number[p];
                int stands = standing(i, group, hour);
                int bit = 1 << p;
                all |= stands >= MAYBE ? bit << CARED : 0;
                all |= stands >= SURE ? bit << SURELY : 0;
                if (stands == SURE_AND_KNOWN && deal.covers(i, hour) && (closed & bit) == 0
                        && afterPlace[p] != NEVER_OPEN) {
                    all |= bit;
                }
            }
            return all;
        }

        /** The places that FREE and NEVER ones close. */
        private int closedPlaces(int group, int hour) {
            int closed = 0;
            for (int i = 0; i < deal.count; i++) {
                if (!isMeant(i) || deal.isWork(i) || !deal.covers(i, hour)
                        || standing(i, group, hour) == UNASKED) {
                    continue;
                }
                for (int p = 0; p < places; p++) {
                    if (deal.kind[i] == FREE || deal.thing[number[p]] == deal.thing[i]) {
                        closed |= 1 << p;
                    }
                }
            }
            return closed;
        }

        private int freshForks(int hour) {
            int fresh = 0;
            for (int f = 0; f < FORKS; f++) {
                fresh |= deal.knownFrom[f] == hour ? 1 << f : 0;
            }
            return fresh & deal.forksInUse();
        }

        /** How many works may be done from now on till ahead of each hour, at the most. */
        private void countRoom() {
            roomBefore[deal.now] = 0;
            for (int h = deal.now; h < HOURS; h++) {
                int most = 0;
                for (int g = 0; g < groups; g++) {
                    most = Math.max(most, Integer.bitCount(standings[g * HOURS + h] & PLACES));
                }
                roomBefore[h + 1] = roomBefore[h] + Math.min(most, deal.handsIn[h]);
            }
        }

        private boolean lacksHours() {
            for (int p = 0; p < places; p++) {
                int hours = 0;
                for (int h = deal.now; h < HOURS; h++) {
                    hours += (standings[h] >> p) & 1;
                }
                if (hours < deal.left[number[p]]) {
                    return true;
                }
            }
            return false;
        }

        /** One half of the marks is for states that succeed, the other for those that fail. */
        private int halfOfMarks() {
            return (((HOURS - deal.now) * groups << (2 * places)) + 63) >> 6;
        }

        private void clearMarks() {
            int need = 2 * halfOfMarks();
            if (need > marks.length) {
                marks = new long[need];
            } else if (need > 0) {
                Arrays.fill(marks, 0, need, 0L);
            }
        }

        /** A work is to be done first in that hour; false: it can't be. */
        private boolean pin(int i, int hour) {
            int p = placeOf(i);
            if (hopeless || p < 0 || hour < deal.now || hour >= HOURS) {
                return false;
            }
            pinHour = hour;
            pinBit = 1 << p;
            for (int h = deal.now; h < hour; h++) {
                standings[h] &= ~pinBit;
            }
            makeReady();
            return true;
        }

        private boolean succeeds() {
            return deal != null && !hopeless && wins(deal.now, startGroup, start);
        }

        /** Whether no work need get lost from the hour on. */
        private boolean wins(int hour, int group, int state) {
            if (hour >= HOURS) {
                return true;
            }
            int mark = (((hour - deal.now) * groups + group) << (2 * places)) + state;
            int word = mark >> 6;
            int half = halfOfMarks();
            if (word < 0 || half + word >= marks.length) {
                return false;
            }
            long bit = 1L << (mark & 63);
            if ((marks[word] & bit) != 0) {
                return true;
            }
            if ((marks[half + word] & bit) != 0) {
                return false;
            }
            int moves = movesIn(hour, group, state);
            boolean won = moves != NONE && winsBy(moves, hour, group, state);
            marks[won ? word : half + word] |= bit;
            return won;
        }

        private boolean winsBy(int moves, int hour, int group, int state) {
            // Doing much early wins most often, so the larger sets go first.
            for (int k = places * (places + 1) / 2; k >= 0; k--) {
                if (isMove(k, moves, hour) && follows(hour, group, state - TAKES[k])) {
                    return true;
                }
            }
            return false;
        }

        /** The least set (by its place among the sets), from one on, that wins. */
        private int nextChoice(int hour, int group, int state, int least) {
            int moves = movesIn(hour, group, state);
            if (moves == NONE) {
                return NONE;
            }
            for (int k = least; k <= places * (places + 1) / 2; k++) {
                if (isMove(k, moves, hour) && follows(hour, group, state - TAKES[k])) {
                    return k;
                }
            }
            return NONE;
        }

        private boolean isMove(int k, int moves, int hour) {
            int set = SETS[k];
            int forced = moves >> MOST_WORKS;
            return (set & ~moves) == 0 && (set & forced) == forced
                    && Integer.bitCount(set) <= deal.handsIn[hour] && ((sameThing >> k) & 1) == 0;
        }

        /** Whether all goes well, whatever the forks tell that get known in the next hour. */
        private boolean follows(int hour, int group, int state) {
            if (hour + 1 >= HOURS) {
                return true;
            }
            int fresh = standings[group * HOURS + hour + 1] >> FRESH;
            if (fresh == 0) {
                return wins(hour + 1, group, state);
            }
            for (int news = 0; news < OUTCOMES; news++) {
                if ((news & ~fresh) == 0 && !wins(hour + 1, group | news, state)) {
                    return false;
                }
            }
            return true;
        }

        /** The open places, and six bits higher those that must be done; NONE: all fails. */
        private int movesIn(int hour, int group, int state) {
            int stands = standings[group * HOURS + hour];
            if (!hasRoom(hour, (stands >> SURELY) & PLACES, state)) {
                return NONE;
            }
            int open = 0;
            int forced = hour == pinHour ? pinBit : 0;
            for (int p = 0; p < places; p++) {
                int left = (state >> (2 * p)) & 3;
                if (left == 0) {
                    continue;
                }
                int bit = 1 << p;
                if ((stands & bit) != 0 && isReady(p, hour, left, state)) {
                    open |= bit;
                }
                if ((stands & (bit << CARED)) != 0) {
                    int most = leftAfter[p * HOURS + hour];
                    if (left > most + 1) {
                        return NONE;
                    }
                    forced |= left > most || isUnderWay(p, left) ? bit : 0;
                }
            }
            return (forced & ~open) == 0 ? open | (forced << MOST_WORKS) : NONE;
        }

        /** Whether the works that are asked can still find hands and things before it's too late. */
        private boolean hasRoom(int hour, int asked, int state) {
            int sum = 0;
            int sumsByThing = 0;
            for (int k = 0; k < places; k++) {
                int p = order[k];
                int left = (state >> (2 * p)) & 3;
                if (left == 0 || ((asked >> p) & 1) == 0) {
                    continue;
                }
                int last = deadline[p];
                int hours = last - hour + 1;
                sum += left;
                if (left > hours || sum > roomBefore[last + 1] - roomBefore[hour]) {
                    return false;
                }
                int thing = deal.thing[number[p]];
                if (thing != NONE) {
                    sumsByThing += left << (5 * thing);
                    if (((sumsByThing >> (5 * thing)) & 31) > hours) {
                        return false;
                    }
                }
            }
            return true;
        }

        private boolean isReady(int p, int hour, int left, int state) {
            int other = afterPlace[p];
            if (other >= 0 && ((state >> (2 * other)) & 3) != 0) {
                return false;
            }
            int ahead = leftAhead[p * HOURS + hour];
            return ahead == NONE || ahead == left;
        }

        private boolean isUnderWay(int p, int left) {
            int i = number[p];
            return deal.kind[i] == WHOLE && left < deal.length[i];
        }

        private int promisesOf(int set) {
            int promises = 0;
            for (int p = 0; p < places; p++) {
                promises |= ((set >> p) & 1) != 0 ? 1 << number[p] : 0;
            }
            return promises;
        }

        /** The set of an hour in the first keeping (promises as bits); NONE: there is none. */
        private int firstSetOf(int hour) {
            if (!succeeds()) {
                return NONE;
            }
            int state = start;
            int choice = NONE;
            for (int h = deal.now; h <= hour && h < HOURS; h++) {
                choice = nextChoice(h, startGroup, state, 0);
                if (choice == NONE) {
                    return NONE;
                }
                state -= TAKES[choice];
            }
            return choice == NONE ? NONE : promisesOf(SETS[choice]);
        }

        /** What is done now in every keeping; NONE: there is none. */
        private int commonSetNow() {
            if (!succeeds()) {
                return NONE;
            }
            int common = PLACES;
            int choice = nextChoice(deal.now, startGroup, start, 0);
            for (int i = 0; i < SETS.length && choice != NONE && common != 0; i++) {
                common &= SETS[choice];
                choice = nextChoice(deal.now, startGroup, start, choice + 1);
            }
            return promisesOf(common);
        }
    }

    /** The least dear to break: who is given up, so that the others can be kept. */
    private static final class Breaking {
        private final int[] number = new int[MOST_PROMISES];
        private final int[] price = new int[MOST_PROMISES];
        private final boolean[] fails = new boolean[1 << MOST_PROMISES];
        private int count = 0;

        /**
         * A work that gets lost in the end may as well not be done at all (that leaves more room
         * for the others), so it is enough to try whom to give up. One way of which no single one
         * can be spared is found first, for a price to beat. Then the larger ways go ahead of the
         * smaller: where a way doesn't do, no part of it will.
         */
        private int least(Deal deal, Search search, int outcome, boolean each) {
            int base = findThoseToBreak(deal, outcome, each);
            int full = (1 << count) - 1;
            int way = full;
            for (int k = 0; k < count; k++) {
                int less = way & ~(1 << k);
                if (isWholeChoice(deal, less) && suffices(deal, search, outcome, less)) {
                    way = less;
                }
            }
            int best = priceOf(way);
            fails[full] = false;
            for (int set = full - 1; set >= 0; set--) {
                fails[set] = isInFailing(set, full);
                if (fails[set] || priceOf(set) >= best || !isWholeChoice(deal, set)) {
                    continue;
                }
                if (suffices(deal, search, outcome, set)) {
                    best = priceOf(set);
                } else {
                    fails[set] = true;
                }
            }
            return base + best;
        }

        private boolean suffices(Deal deal, Search search, int outcome, int set) {
            int rest = deal.everyone() & ~deal.lostOnes & ~promisesOf(set);
            search.prepare(deal, rest, 1, outcome);
            return search.succeeds();
        }

        /** Fills the list, and answers what is owed already. */
        private int findThoseToBreak(Deal deal, int outcome, boolean each) {
            int base = 0;
            count = 0;
            for (int i = 0; i < deal.count; i++) {
                if (!deal.isAsked(i, outcome)) {
                    continue;
                }
                int cost = each ? 1 : deal.owing[i];
                if (deal.isLost(i)) {
                    base += cost;
                } else if (deal.till[i] >= deal.now && (!deal.isWork(i) || deal.left[i] > 0)) {
                    number[count] = i;
                    price[count] = cost;
                    count++;
                }
            }
            return base;
        }

        private int priceOf(int set) {
            int sum = 0;
            for (int k = 0; k < count; k++) {
                sum += ((set >> k) & 1) != 0 ? price[k] : 0;
            }
            return sum;
        }

        private int promisesOf(int set) {
            int promises = 0;
            for (int k = 0; k < count; k++) {
                promises |= ((set >> k) & 1) != 0 ? 1 << number[k] : 0;
            }
            return promises;
        }

        private boolean isInFailing(int set, int full) {
            for (int k = 0; k < count; k++) {
                if (((set >> k) & 1) == 0 && fails[(set | (1 << k)) & full]) {
                    return true;
                }
            }
            return false;
        }

        /** Whoever is after one that is given up has to be given up, too. */
        private boolean isWholeChoice(Deal deal, int set) {
            int given = promisesOf(set);
            for (int k = 0; k < count; k++) {
                int other = deal.after[number[k]];
                if (((set >> k) & 1) == 0 && other != NONE && ((given >> other) & 1) != 0) {
                    return false;
                }
            }
            return true;
        }
    }

    /** A row of hours told by hand, from hour 0 on. */
    private static final class Telling {
        private final int[] lefts = new int[MOST_PROMISES];
        private int lostOnes = 0;
        private int clash = NONE;

        private void tell(Deal deal, long[] row, int size, int outcome) {
            System.arraycopy(deal.length, 0, lefts, 0, MOST_PROMISES);
            int lostWorks = 0;
            int broken = 0;
            clash = NONE;
            for (int h = 0; h < HOURS; h++) {
                int set = h < size && h < row.length ? (int) row[h] : 0;
                int why = deal.whyNot(set, h, outcome, lefts, lostWorks);
                if (why != FITS && clash == NONE) {
                    clash = 10 * h + why;
                }
                if (why == WHY_FREE) {
                    broken |= deal.brokenOnes(FREE, set, h, outcome);
                } else if (why == WHY_NEVER) {
                    broken |= deal.brokenOnes(NEVER, set, h, outcome);
                }
                lostWorks |= deal.pass(why == FITS ? set : 0, h, outcome, lefts, lostWorks);
            }
            lostOnes = lostWorks | broken;
        }
    }
}
