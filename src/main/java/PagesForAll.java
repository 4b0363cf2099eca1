/**
 * Pages as those who do not see, hear or hold a mouse would have them: what each part is called, what is read out,
 * where keys lead, what is wrong and what mends it. Sets of parts are ints with one bit for each part.
 * Each method looks itself at an index that it is given, though its callers have looked: so none can ever throw.
 */
public final class PagesForAll {
    public static final int NONE = -1, UNKNOWN = -101, OUTSIDE = -102, STATE = -103, FULL = -104;

    private static final int MOST_PARTS = 24, MOST_OPENED = 6, MOST_WORDS = 8;
    private static final int PAGE = 0;

    /** The kinds of parts. */
    private static final int GROUP = 0, TEXT = 1, BUTTON = 2, FIELD = 3, PICTURE = 4, TRAP = 5, LIVE = 6, KINDS = 7;

    /** What a part has, by the numbers of set() and told(). */
    private static final int OWN = 0, TOLD = 1, HINT = 2, LABEL = 3, SECOND_LABEL = 4, HIDDEN = 5, PLACE = 6,
            OPENS = 7, WAIT = 8, LONGER = 9, KIND = 10, PARENT = 11, X = 12, Y = 13, WIDTH = 14, HEIGHT = 15,
            INK = 16, GROUND = 17, HELD = 18, SHOWN = 18;
    private static final int MOST_PLACE = 100, MOST_WAIT = 1000, MOST_LENGTH = 10000;

    private static final int BLACK = 0, WHITE = 16777215;
    private static final int FAINTEST_LIGHT = 127500, TEXT_CONTRAST = 4500, STOP_CONTRAST = 3000;

    private static final int NEXT = 0, BACK = 1, ENTER = 2;

    /** The sorts of wrongs. */
    private static final int NAMELESS = 0, TWIN = 1, PALE = 2, CLOSED = 3, ASTRAY = 4, SHORT = 5, SORTS = 6;
    private static final int LEAST_GOOD_WAIT = 20, FIRST_MENDED_NAME = 1000000;

    private static final int FIRST_DIGEST = 107, DIGEST_FACTOR = 31;

    private final Parts parts;
    private final Names names;
    private final Reading reading;
    private final Stops stops;
    private final Walks walks;
    private final Faults faults;
    private final Spoken spoken;
    private int focus;

    public PagesForAll() {
        parts = new Parts();
        names = new Names(parts);
        reading = new Reading(parts);
        stops = new Stops(parts);
        walks = new Walks(parts, stops);
        faults = new Faults(parts, names, reading);
        spoken = new Spoken();
        focus = NONE;
    }

    // ---- parts

    public int part(int parent, int kind) {
        if (!parts.has(parent)) {
            return UNKNOWN;
        }
        if (kind < GROUP || kind > LIVE) {
            return OUTSIDE;
        }
        if (parts.isFull()) {
            return FULL;
        }
        int added = parts.add(parent, kind);
        stops.arrange();
        return added;
    }

    public int set(int p, int what, int v) {
        if (!parts.has(p)) {
            return UNKNOWN;
        }
        if (!parts.allows(what, v)) {
            return OUTSIDE;
        }
        if (p == PAGE && what == HIDDEN) {
            return STATE;
        }
        if (what == OPENS && opensTooMany(p, v)) {
            return FULL;
        }
        return change(p, what, v);
    }

    public int told(int p, int what) {
        if (!parts.has(p)) {
            return UNKNOWN;
        }
        if (what < OWN || what > SHOWN) {
            return OUTSIDE;
        }
        if (what == SHOWN) {
            return holds(parts.shownNow(), p) ? 1 : 0;
        }
        return parts.get(p, what);
    }

    public int box(int p, int x, int y, int width, int height) {
        if (!parts.has(p)) {
            return UNKNOWN;
        }
        if (!isLength(x) || !isLength(y) || !isLength(width) || !isLength(height)) {
            return OUTSIDE;
        }
        parts.put(p, X, x);
        parts.put(p, Y, y);
        parts.put(p, WIDTH, width);
        parts.put(p, HEIGHT, height);
        return 1;
    }

    public int colours(int p, int ink, int ground) {
        if (!parts.has(p)) {
            return UNKNOWN;
        }
        if (!isColour(ink) || !isColour(ground)) {
            return OUTSIDE;
        }
        parts.put(p, INK, ink);
        parts.put(p, GROUND, ground);
        return parts.contrastOf(p);
    }

    public int contrast(int p) {
        return parts.has(p) ? parts.contrastOf(p) : UNKNOWN;
    }

    // ---- names, what is said

    public int name(int p) {
        if (!parts.has(p)) {
            return UNKNOWN;
        }
        names.compose(p, parts.shownNow());
        return names.lengthOf(p);
    }

    public int word(int p, int k) {
        if (!parts.has(p)) {
            return 0;
        }
        names.compose(p, parts.shownNow());
        return names.wordOf(p, k);
    }

    public int said(int k) {
        reading.gather(parts.shownNow());
        return reading.at(k);
    }

    public int pairs() {
        reading.gather(parts.shownNow());
        reading.compare();
        return reading.astrayPairs;
    }

    // ---- keys

    public int stop(int k) {
        return stops.at(k, parts.shownNow());
    }

    public int press(int key) {
        if (key < NEXT || key > ENTER) {
            return OUTSIDE;
        }
        if (key == ENTER) {
            enter();
        } else {
            focus = stops.turn(focus, key, parts.shownNow());
        }
        return focus;
    }

    public int focus() {
        return focus;
    }

    public int caught() {
        return parts.trapAround(focus, parts.shownNow());
    }

    public int leave() {
        int was = focus;
        focus = NONE;
        return was;
    }

    public int walk(int p) {
        return parts.has(p) ? walks.lengthTo(focus, p) : UNKNOWN;
    }

    public int key(int p) {
        return parts.has(p) ? walks.firstKeyTo(focus, p) : UNKNOWN;
    }

    public int keeper() {
        int trap = parts.trapAround(focus, parts.shownNow());
        return trap != NONE && walks.leadOutOf(focus, trap) ? NONE : trap;
    }

    public int hear() {
        return spoken.takeFirst();
    }

    // ---- wrongs

    public int wrongs() {
        faults.gather();
        return faults.size;
    }

    public int wrong(int k, int what) {
        if (what != 0 && what != 1) {
            return OUTSIDE;
        }
        faults.gather();
        return what == 0 ? faults.partAt(k) : faults.sortAt(k);
    }

    public int mend(int k) {
        faults.gather();
        int p = faults.partAt(k);
        int sort = faults.sortAt(k);
        if (p == NONE) {
            return UNKNOWN;
        }
        if (sort == CLOSED || sort == ASTRAY) {
            return STATE;
        }
        faults.mendAt(p, sort);
        faults.gather();
        return faults.size;
    }

    // ---- what is told

    public int count(int what) {
        switch (what) {
            case 0:
                return parts.size;
            case 1:
                return Integer.bitCount(parts.shownNow());
            case 2:
                return Integer.bitCount(parts.stopsAmong(parts.shownNow()));
            case 3:
                reading.gather(parts.shownNow());
                return reading.size;
            case 4:
                return spoken.size;
            case 5:
                return Integer.bitCount(parts.openedBesides(NONE));
            default:
                return OUTSIDE;
        }
    }

    public long digest() {
        long h = FIRST_DIGEST;
        for (int p = 0; p < parts.size; p++) {
            for (int what = OWN; what < HELD; what++) {
                h = DIGEST_FACTOR * h + parts.get(p, what);
            }
        }
        h = DIGEST_FACTOR * h + focus;
        for (int i = 0; i < spoken.size; i++) {
            h = DIGEST_FACTOR * h + spoken.row[i];
        }
        faults.gather();
        return DIGEST_FACTOR * h + faults.size;
    }

    // ---- what the calls share

    private boolean opensTooMany(int p, int v) {
        int opened = parts.openedBesides(p);
        return v != NONE && !holds(opened, v) && Integer.bitCount(opened) >= MOST_OPENED;
    }

    private int change(int p, int what, int v) {
        int was = parts.get(p, what);
        parts.put(p, what, v);
        if (was != v && (what == OWN || what == HIDDEN)) {
            speakOf(p);
        }
        if (what == PLACE) {
            stops.arrange();
        }
        if (what == HIDDEN && !holds(parts.shownNow(), focus)) {
            focus = NONE;
        }
        return was;
    }

    private void enter() {
        int opened = parts.openedByButton(focus);
        if (opened != NONE) {
            change(opened, HIDDEN, 1 - parts.get(opened, HIDDEN));
        }
    }

    private void speakOf(int p) {
        int live = parts.liveAround(p);
        if (holds(parts.shownNow(), live)) {
            spoken.add(live);
        }
    }

    private static boolean isLength(int v) {
        return v >= 0 && v <= MOST_LENGTH;
    }

    private static boolean isColour(int v) {
        return v >= BLACK && v <= WHITE;
    }

    private static boolean holds(int partSet, int p) {
        return p >= 0 && p < MOST_PARTS && (partSet >> p & 1) != 0;
    }

    private static int lastOf(int partSet) {
        for (int p = MOST_PARTS - 1; p >= 0; p--) {
            if ((partSet >> p & 1) != 0) {
                return p;
            }
        }
        return NONE;
    }

    private static int light(int colour) {
        return 2126 * (colour >> 16 & 255) + 7152 * (colour >> 8 & 255) + 722 * (colour & 255);
    }

    private static int contrastBetween(int ink, int ground) {
        long greater = Math.max(light(ink), light(ground)) + FAINTEST_LIGHT;
        long lesser = Math.min(light(ink), light(ground)) + FAINTEST_LIGHT;
        return lesser > 0 ? (int) (1000 * greater / lesser) : 0;
    }

    /** The parts, how they lie in one another, and what each has. */
    private static final class Parts {
        private final int[] held = new int[MOST_PARTS * HELD];
        private final int[] around = new int[MOST_PARTS];
        private final int[] within = new int[MOST_PARTS];
        private final int[] ofKind = new int[KINDS];
        private final int[] order = new int[MOST_PARTS];
        private int size;

        private Parts() {
            size = 0;
            add(NONE, GROUP);
        }

        private boolean has(int p) {
            return p >= 0 && p < size;
        }

        private boolean isFull() {
            return size >= MOST_PARTS;
        }

        private int get(int p, int what) {
            int at = p * HELD + what;
            return at >= 0 && at < held.length ? held[at] : NONE;
        }

        private void put(int p, int what, int v) {
            int at = p * HELD + what;
            if (at >= 0 && at < held.length) {
                held[at] = v;
            }
        }

        private int aroundOf(int p) {
            return p >= 0 && p < size ? around[p] : 0;
        }

        private int withinOf(int p) {
            return p >= 0 && p < size ? within[p] : 0;
        }

        private int add(int parent, int kind) {
            int p = size;
            if (p >= MOST_PARTS || kind < GROUP || kind >= KINDS) {
                return NONE;
            }
            insertInOrder(parent);
            around[p] = has(parent) ? aroundOf(parent) | 1 << parent : 0;
            for (int q = 0; q < p; q++) {
                if (holds(around[p], q)) {
                    within[q] |= 1 << p;
                }
            }
            ofKind[kind] |= 1 << p;
            putFirstValues(p, parent, kind);
            size++;
            return p;
        }

        /** Behind all that its parent has comes the part that is added, whose number is the size. */
        private void insertInOrder(int parent) {
            int at = has(parent) ? spotInOrder(parent) + 1 + Integer.bitCount(withinOf(parent)) : 0;
            if (size >= MOST_PARTS || at > size) {
                return;
            }
            for (int i = size; i > at; i--) {
                order[i] = order[i - 1];
            }
            order[at] = size;
        }

        private int spotInOrder(int p) {
            int at = 0;
            for (int i = 0; i < size; i++) {
                if (order[i] == p) {
                    at = i;
                }
            }
            return at;
        }

        /** All else is 0 at first, as it is in a new row. */
        private void putFirstValues(int p, int parent, int kind) {
            put(p, LABEL, NONE);
            put(p, SECOND_LABEL, NONE);
            put(p, OPENS, NONE);
            put(p, KIND, kind);
            put(p, PARENT, parent);
            put(p, GROUND, WHITE);
        }

        private boolean allows(int what, int v) {
            switch (what) {
                case OWN:
                case TOLD:
                case HINT:
                    return true;
                case LABEL:
                case SECOND_LABEL:
                    return v == NONE || has(v);
                case OPENS:
                    return v == NONE || v != PAGE && has(v);
                case HIDDEN:
                case LONGER:
                    return v == 0 || v == 1;
                case PLACE:
                    return v >= 0 && v <= MOST_PLACE;
                case WAIT:
                    return v >= 0 && v <= MOST_WAIT;
                default:
                    return false;
            }
        }

        private int hiddenNow() {
            int hidden = 0;
            for (int p = 0; p < size; p++) {
                if (get(p, HIDDEN) != 0) {
                    hidden |= 1 << p;
                }
            }
            return hidden;
        }

        private int shownNow() {
            return shownUnder(hiddenNow());
        }

        private int shownUnder(int hidden) {
            int shown = 0;
            for (int p = 0; p < size; p++) {
                int itAndAround = around[p] | 1 << p;
                if ((itAndAround & hidden) == 0) {
                    shown |= 1 << p;
                }
            }
            return shown;
        }

        private int stopsAmong(int shown) {
            return shown & (ofKind[BUTTON] | ofKind[FIELD]);
        }

        private int openedBesides(int p) {
            int opened = 0;
            for (int q = 0; q < size; q++) {
                int v = get(q, OPENS);
                if (q != p && v != NONE) {
                    opened |= 1 << v;
                }
            }
            return opened;
        }

        private int openedByButton(int p) {
            return holds(ofKind[BUTTON], p) ? get(p, OPENS) : NONE;
        }

        /** The innermost is the last, for what lies in a part has a greater number. */
        private int trapAround(int p, int shown) {
            return lastOf(aroundOf(p) & ofKind[TRAP] & shown);
        }

        private int liveAround(int p) {
            return lastOf(aroundOf(p) & ofKind[LIVE]);
        }

        private int contrastOf(int p) {
            return contrastBetween(get(p, INK), get(p, GROUND));
        }
    }

    /** The names of parts, as they were when last composed. */
    private static final class Names {
        private final Parts parts;
        private final int[] words = new int[MOST_PARTS * MOST_WORDS];
        private final int[] lengths = new int[MOST_PARTS];

        private Names(Parts parts) {
            this.parts = parts;
        }

        private void compose(int p, int shown) {
            if (!parts.has(p)) {
                return;
            }
            lengths[p] = 0;
            addOwnOf(p, parts.get(p, LABEL));
            addOwnOf(p, parts.get(p, SECOND_LABEL));
            if (lengths[p] == 0) {
                add(p, parts.get(p, TOLD));
            }
            if (lengths[p] == 0) {
                add(p, parts.get(p, OWN));
            }
            if (lengths[p] == 0 && parts.get(p, KIND) == BUTTON) {
                addTextsIn(p, shown);
            }
            if (lengths[p] == 0) {
                add(p, parts.get(p, HINT));
            }
        }

        private void addTextsIn(int p, int shown) {
            int texts = parts.withinOf(p) & parts.ofKind[TEXT] & shown;
            for (int i = 0; i < parts.size; i++) {
                if (holds(texts, parts.order[i])) {
                    addOwnOf(p, parts.order[i]);
                }
            }
        }

        private void addOwnOf(int p, int source) {
            if (parts.has(source)) {
                add(p, parts.get(source, OWN));
            }
        }

        private void add(int p, int v) {
            if (v != 0 && parts.has(p) && lengths[p] < MOST_WORDS) {
                words[p * MOST_WORDS + lengths[p]] = v;
                lengths[p]++;
            }
        }

        private int lengthOf(int p) {
            return parts.has(p) ? lengths[p] : 0;
        }

        private int wordOf(int p, int k) {
            return k >= 0 && k < lengthOf(p) ? words[p * MOST_WORDS + k] : 0;
        }

        /** No word is 0, so names of unlike lengths differ behind the end of the shorter one. */
        private boolean areAlike(int p, int q) {
            for (int k = 0; k < MOST_WORDS; k++) {
                if (wordOf(p, k) != wordOf(q, k)) {
                    return false;
                }
            }
            return true;
        }
    }

    /** What is said, in order, as it was when last gathered; what of it is astray, as it was when last compared. */
    private static final class Reading {
        private final Parts parts;
        private final int[] row = new int[MOST_PARTS];
        private int size;
        private int astray;
        private int astrayPairs;

        private Reading(Parts parts) {
            this.parts = parts;
            this.size = 0;
            this.astray = 0;
            this.astrayPairs = 0;
        }

        private void gather(int shown) {
            size = 0;
            for (int i = 0; i < parts.size; i++) {
                int p = parts.order[i];
                if (holds(shown, p) && isToBeSaid(p)) {
                    row[size] = p;
                    size++;
                }
            }
        }

        private boolean isToBeSaid(int p) {
            int kind = parts.get(p, KIND);
            if (kind == TEXT) {
                return parts.get(p, OWN) != 0 && (parts.aroundOf(p) & parts.ofKind[BUTTON]) == 0;
            }
            return kind == BUTTON || kind == FIELD || kind == PICTURE;
        }

        private int at(int k) {
            return k >= 0 && k < size ? row[k] : NONE;
        }

        private void compare() {
            astray = 0;
            astrayPairs = 0;
            for (int i = 0; i < size; i++) {
                for (int j = i + 1; j < size; j++) {
                    if (isAstray(row[i], row[j])) {
                        astray |= 1 << row[i];
                        astrayPairs++;
                    }
                }
            }
        }

        private boolean isAstray(int ahead, int later) {
            if (!hasArea(ahead) || !hasArea(later)) {
                return false;
            }
            return isAbove(later, ahead) || isLeftOf(later, ahead) && !isAbove(ahead, later);
        }

        private boolean hasArea(int p) {
            return parts.get(p, WIDTH) > 0 && parts.get(p, HEIGHT) > 0;
        }

        private boolean isAbove(int p, int q) {
            return parts.get(p, Y) + parts.get(p, HEIGHT) <= parts.get(q, Y);
        }

        private boolean isLeftOf(int p, int q) {
            return parts.get(p, X) + parts.get(p, WIDTH) <= parts.get(q, X);
        }
    }

    /** All buttons and fields, shown or not, in the order of stops: which of them are shown is told by each call. */
    private static final class Stops {
        private final Parts parts;
        private final int[] row = new int[MOST_PARTS];
        private int size;

        private Stops(Parts parts) {
            this.parts = parts;
            this.size = 0;
        }

        private void arrange() {
            size = 0;
            for (int i = 0; i < parts.size; i++) {
                int p = parts.order[i];
                int kind = parts.get(p, KIND);
                if (kind == BUTTON || kind == FIELD) {
                    insert(p);
                }
            }
        }

        private void insert(int p) {
            if (size >= MOST_PARTS) {
                return;
            }
            int at = size;
            while (at > 0 && rank(p) < rank(row[at - 1])) {
                row[at] = row[at - 1];
                at--;
            }
            row[at] = p;
            size++;
        }

        private int rank(int p) {
            int place = parts.get(p, PLACE);
            return place == 0 ? MOST_PLACE + 1 : place;
        }

        private int at(int k, int shown) {
            if (k < 0) {
                return NONE;
            }
            int left = k;
            for (int i = 0; i < size; i++) {
                if (holds(shown, row[i])) {
                    if (left == 0) {
                        return row[i];
                    }
                    left--;
                }
            }
            return NONE;
        }

        /** Where NEXT or BACK leads. */
        private int turn(int from, int key, int shown) {
            int trap = parts.trapAround(from, shown);
            int among = trap == NONE ? shown : shown & parts.withinOf(trap);
            int at = holds(among, from) ? spotOf(from) : NONE;
            for (int i = 0; i < size; i++) {
                at = key == NEXT ? spotBehind(at) : spotAhead(at);
                if (holds(among, row[at])) {
                    return row[at];
                }
            }
            return from;
        }

        /** NONE leads to the first spot, as the last one does. */
        private int spotBehind(int at) {
            return at + 1 < size ? at + 1 : 0;
        }

        /** NONE leads to the last spot, as the first one does. */
        private int spotAhead(int at) {
            return at > 0 ? at - 1 : size - 1;
        }

        private int spotOf(int p) {
            for (int i = 0; i < size; i++) {
                if (row[i] == p) {
                    return i;
                }
            }
            return NONE;
        }
    }

    /**
     * Looks through all that keys can lead to, the nearest first and of equally near ones the lesser keys first.
     * Keys change the focus and whether opened parts (six at most) are hidden; a state is both of these in one int.
     */
    private static final class Walks {
        private static final int FOCUSES = MOST_PARTS + 1, STATES = FOCUSES << MOST_OPENED;

        private final Parts parts;
        private final Stops stops;
        private final int[] doors = new int[MOST_OPENED];
        private int doorCount;
        private int hiddenForGood;

        private final int[] states = new int[STATES];
        private final int[] lengths = new int[STATES];
        private final int[] firstKeys = new int[STATES];
        private int found;

        /** By state, the look in which it was found last: so that no look has to wipe what the one before it left. */
        private final int[] foundIn = new int[STATES];
        private int look;

        private Walks(Parts parts, Stops stops) {
            this.parts = parts;
            this.stops = stops;
            this.doorCount = 0;
            this.hiddenForGood = 0;
            this.found = 0;
            this.look = 0;
        }

        private int lengthTo(int focus, int p) {
            int at = find(focus, 1 << p);
            return at == NONE ? NONE : lengths[at];
        }

        private int firstKeyTo(int focus, int p) {
            int at = find(focus, 1 << p);
            return at == NONE ? NONE : firstKeys[at];
        }

        private boolean leadOutOf(int focus, int trap) {
            return find(focus, ~parts.withinOf(trap)) != NONE;
        }

        private int find(int focus, int goals) {
            look++;
            found = 0;
            takeDoors();
            come(doorsShutNow(), focus, 0, NONE);
            for (int at = 0; at < found && at < STATES; at++) {
                if (holds(goals, focusIn(states[at]))) {
                    return at;
                }
                pressAllKeys(at);
            }
            return NONE;
        }

        private void takeDoors() {
            int opened = parts.openedBesides(NONE);
            doorCount = 0;
            for (int p = 0; p < parts.size; p++) {
                if (holds(opened, p) && doorCount < MOST_OPENED) {
                    doors[doorCount] = p;
                    doorCount++;
                }
            }
            hiddenForGood = parts.hiddenNow() & ~opened;
        }

        private int doorsShutNow() {
            int shut = 0;
            for (int d = 0; d < doorCount; d++) {
                if (parts.get(doors[d], HIDDEN) != 0) {
                    shut |= 1 << d;
                }
            }
            return shut;
        }

        private int shownIf(int shut) {
            int hidden = hiddenForGood;
            for (int d = 0; d < doorCount; d++) {
                if ((shut >> d & 1) != 0) {
                    hidden |= 1 << doors[d];
                }
            }
            return parts.shownUnder(hidden);
        }

        private static int focusIn(int state) {
            return state % FOCUSES - 1;
        }

        private void pressAllKeys(int at) {
            if (at < 0 || at >= found) {
                return;
            }
            int from = focusIn(states[at]);
            int shut = states[at] / FOCUSES;
            int shown = shownIf(shut);
            comeFrom(at, NEXT, shut, stops.turn(from, NEXT, shown));
            comeFrom(at, BACK, shut, stops.turn(from, BACK, shown));
            int door = doorOf(from);
            if (door != NONE) {
                int shutThen = shut ^ 1 << door;
                comeFrom(at, ENTER, shutThen, holds(shownIf(shutThen), from) ? from : NONE);
            }
        }

        private int doorOf(int p) {
            int opened = parts.openedByButton(p);
            for (int d = 0; d < doorCount; d++) {
                if (doors[d] == opened) {
                    return d;
                }
            }
            return NONE;
        }

        private void comeFrom(int at, int pressed, int shut, int to) {
            if (at >= 0 && at < found) {
                come(shut, to, lengths[at] + 1, lengths[at] == 0 ? pressed : firstKeys[at]);
            }
        }

        private void come(int shut, int to, int length, int firstKey) {
            int state = shut * FOCUSES + to + 1;
            if (state >= 0 && state < STATES && foundIn[state] != look && found < STATES) {
                foundIn[state] = look;
                states[found] = state;
                lengths[found] = length;
                firstKeys[found] = firstKey;
                found++;
            }
        }
    }

    /** The wrongs, as they were when last gathered. */
    private static final class Faults {
        private final Parts parts;
        private final Names names;
        private final Reading reading;
        private final int[] partRow = new int[MOST_PARTS * SORTS];
        private final int[] sortRow = new int[MOST_PARTS * SORTS];
        private int size;

        private Faults(Parts parts, Names names, Reading reading) {
            this.parts = parts;
            this.names = names;
            this.reading = reading;
            this.size = 0;
        }

        private void gather() {
            int shown = parts.shownNow();
            reading.gather(shown);
            reading.compare();
            size = 0;
            for (int p = 0; p < parts.size; p++) {
                names.compose(p, shown);
                for (int sort = NAMELESS; sort < SORTS; sort++) {
                    if (holds(shown, p) && hasFault(p, sort, shown)) {
                        partRow[size] = p;
                        sortRow[size] = sort;
                        size++;
                    }
                }
            }
        }

        private boolean hasFault(int p, int sort, int shown) {
            switch (sort) {
                case NAMELESS:
                    return isNameless(p);
                case TWIN:
                    return isTwin(p, shown);
                case PALE:
                    return isPale(p);
                case CLOSED:
                    return parts.get(p, KIND) == TRAP && isClosed(p, shown);
                case ASTRAY:
                    return holds(reading.astray, p);
                default:
                    return isShort(p);
            }
        }

        private boolean isNameless(int p) {
            int kind = parts.get(p, KIND);
            return names.lengthOf(p) == 0 && (kind == BUTTON || kind == FIELD || kind == PICTURE);
        }

        /** The names of lesser parts have been composed before this one's. */
        private boolean isTwin(int p, int shown) {
            int shownStops = parts.stopsAmong(shown);
            if (!holds(shownStops, p) || names.lengthOf(p) == 0) {
                return false;
            }
            for (int q = 0; q < p; q++) {
                if (holds(shownStops, q) && names.areAlike(p, q)) {
                    return true;
                }
            }
            return false;
        }

        private boolean isPale(int p) {
            int kind = parts.get(p, KIND);
            if (kind == TEXT) {
                return parts.contrastOf(p) < TEXT_CONTRAST;
            }
            return (kind == BUTTON || kind == FIELD) && parts.contrastOf(p) < STOP_CONTRAST;
        }

        private boolean isClosed(int trap, int shown) {
            int stopsInside = parts.stopsAmong(shown) & parts.withinOf(trap);
            int waysOut = parts.aroundOf(trap) | 1 << trap;
            for (int p = 0; p < parts.size; p++) {
                if (holds(stopsInside, p) && holds(waysOut, parts.openedByButton(p))) {
                    return false;
                }
            }
            return stopsInside != 0;
        }

        private boolean isShort(int p) {
            int wait = parts.get(p, WAIT);
            return wait > 0 && wait < LEAST_GOOD_WAIT && parts.get(p, LONGER) == 0;
        }

        private int partAt(int k) {
            return k >= 0 && k < size ? partRow[k] : NONE;
        }

        private int sortAt(int k) {
            return k >= 0 && k < size ? sortRow[k] : NONE;
        }

        private void mendAt(int p, int sort) {
            if (sort == NAMELESS || sort == TWIN) {
                parts.put(p, LABEL, NONE);
                parts.put(p, SECOND_LABEL, NONE);
                parts.put(p, TOLD, FIRST_MENDED_NAME + p);
            } else if (sort == PALE) {
                int ground = parts.get(p, GROUND);
                boolean whiteIsBetter = contrastBetween(WHITE, ground) > contrastBetween(BLACK, ground);
                parts.put(p, INK, whiteIsBetter ? WHITE : BLACK);
            } else if (sort == SHORT) {
                parts.put(p, LONGER, 1);
            }
        }
    }

    /** The lives that have something to speak, each once, in the order in which they came. */
    private static final class Spoken {
        private final int[] row = new int[MOST_PARTS];
        private int size;

        private Spoken() {
            size = 0;
        }

        private void add(int live) {
            for (int i = 0; i < size; i++) {
                if (row[i] == live) {
                    return;
                }
            }
            if (size < MOST_PARTS) {
                row[size] = live;
                size++;
            }
        }

        private int takeFirst() {
            if (size == 0) {
                return NONE;
            }
            int first = row[0];
            size--;
            for (int i = 0; i < size; i++) {
                row[i] = row[i + 1];
            }
            return first;
        }
    }
}
