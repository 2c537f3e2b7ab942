/** An archive that is written once, and that comes back from its image after the power failed. */
public final class WriteOnceVault {
    public static final int BAD = -1;
    public static final int ABSENT = -2;
    public static final int GONE = -3;
    public static final int SHORT = -4;
    public static final int SAME = -5;
    public static final int HELD = -6;
    public static final int EARLY = -7;
    public static final int FULL = -8;
    public static final int LOST = -9;
    public static final int OFF = -10;
    public static final long NONE = 1L << 40;

    private static final int ALLOWED = 0;
    private static final int DONE = 0;
    private static final int REFUSED = -1;

    private static final int PUT = 1;
    private static final int EXTEND = 2;
    private static final int HOLD = 3;
    private static final int RELEASE = 4;
    private static final int DELETE = 5;
    private static final int SHRED = 6;

    private static final int MOST_RECORDS = 40;
    private static final int MOST_OBJECTS = 12;
    private static final int LONGEST_TICK = 1000;
    private static final int LATEST_CUT = 400;
    private static final int NO_CUT = -1;

    private final Image image = new Image();
    private final Catalog catalog = new Catalog();
    // An audit replays the image; a catalog of its own keeps the archive's one as it is.
    private final Catalog auditCatalog = new Catalog();
    private final Descent descent = new Descent();
    private final FedWords fedWords = new FedWords();
    private final int[] draft = new int[Image.RECORD_WORDS];
    private int clock = 0;
    private boolean powered = true;
    private int wordsBeforeCut = NO_CUT;

    public WriteOnceVault() {
    }

    public int put(int a, int b, int key, int date) {
        int id = catalog.nextId();
        int refusal = refusalOf(PUT, id, date);
        if (refusal != ALLOWED) {
            return refusal;
        }
        int c0 = a ^ Digests.pad(key, id, 0);
        int c1 = b ^ Digests.pad(key, id, 1);
        draftRecord(PUT, id, date, c0, c1);
        // The key goes first: a record that is whole never lacks its key.
        boolean written = writeWord(Image.keyPlace(id), key) && writeDraft();
        if (!written) {
            return LOST;
        }
        catalog.enter(PUT, id, date);
        return id;
    }

    public int extend(int id, int date) {
        return change(EXTEND, id, date);
    }

    public int hold(int id, int number, boolean set) {
        return change(set ? HOLD : RELEASE, id, number);
    }

    public int delete(int id) {
        return change(DELETE, id, 0);
    }

    public int shred(int id) {
        return change(SHRED, id, 0);
    }

    public int tick(int n) {
        if (n < 0 || n > LONGEST_TICK) {
            return REFUSED;
        }
        clock += n;
        return clock;
    }

    public long get(int id, int j) {
        if (!powered || !catalog.isLive(id) || j < 0 || j > 1) {
            return NONE;
        }
        int sealed = image.field(catalog.putRecordOf(id), Image.C0 + j);
        int key = image.read(Image.keyPlace(id));
        return sealed ^ Digests.pad(key, id, j);
    }

    public int look(int id, int what) {
        if (!powered || !catalog.isThere(id)) {
            return REFUSED;
        }
        switch (what) {
            case 0:
                return catalog.stateOf(id);
            case 1:
                return catalog.dateOf(id);
            case 2:
                return catalog.holdsOf(id);
            default:
                return REFUSED;
        }
    }

    public int records() {
        return powered ? catalog.recordCount() : REFUSED;
    }

    public long root(int n) {
        if (!powered || n < 0 || n > catalog.recordCount()) {
            return NONE;
        }
        return image.rootOf(n);
    }

    public long path(int i, int n, int k) {
        if (!powered || i < 0 || i >= n || n > catalog.recordCount()) {
            return NONE;
        }
        descent.toLeaf(i, n);
        return digestOnTheWay(k);
    }

    public long bridge(int m, int n, int k) {
        if (!powered || m < 1 || m > n || n > catalog.recordCount()) {
            return NONE;
        }
        descent.toEdge(m, n);
        return digestOnTheWay(k);
    }

    public boolean feed(int w) {
        return fedWords.add(w);
    }

    public boolean included(int i, int n, int root) {
        boolean proven = false;
        if (0 <= i && i < n && n <= MOST_RECORDS) {
            descent.toLeaf(i, n);
            proven = fedWords.proveLeaf(descent, root);
        }
        fedWords.clear();
        return proven;
    }

    public boolean extended(int m, int n, int early, int late) {
        boolean proven = false;
        if (1 <= m && m <= n && n <= MOST_RECORDS) {
            descent.toEdge(m, n);
            proven = fedWords.proveGrowth(descent, early, late);
        }
        fedWords.clear();
        return proven;
    }

    public long word(int at) {
        return Image.hasPlace(at) ? image.read(at) : NONE;
    }

    public boolean alter(int at, int v) {
        if (powered || !Image.hasPlace(at)) {
            return false;
        }
        image.store(at, v);
        return true;
    }

    public int power(boolean on) {
        if (on == powered) {
            return REFUSED;
        }
        powered = on;
        if (on) {
            catalog.replay(image, clock);
            wipeWhatIsNotSound();
        }
        return catalog.recordCount();
    }

    public boolean cut(int n) {
        if (n < NO_CUT || n > LATEST_CUT) {
            return false;
        }
        wordsBeforeCut = n;
        return true;
    }

    public int audit(int n, int root) {
        auditCatalog.replay(image, clock);
        int sound = auditCatalog.recordCount();
        boolean agrees = 0 <= n && n <= sound && image.rootOf(n) == root;
        return agrees ? sound : -1 - sound;
    }

    private int refusalOf(int kind, int id, int value) {
        return powered ? catalog.verdict(kind, id, value, clock) : OFF;
    }

    private int change(int kind, int id, int value) {
        int refusal = refusalOf(kind, id, value);
        if (refusal != ALLOWED) {
            return refusal;
        }
        draftRecord(kind, id, value, 0, 0);
        boolean written = writeDraft();
        if (written && kind == SHRED) {
            // The key goes last: while the record isn't whole the object can still be read.
            written = writeWord(Image.keyPlace(id), 0);
        }
        if (!written) {
            return LOST;
        }
        catalog.enter(kind, id, value);
        return DONE;
    }

    private void draftRecord(int kind, int id, int value, int c0, int c1) {
        draft[Image.KIND] = kind;
        draft[Image.ID] = id;
        draft[Image.VALUE] = value;
        draft[Image.C0] = c0;
        draft[Image.C1] = c1;
        draft[Image.TIME] = clock;
        draft[Image.CHECK] = Digests.leafAt(draft, 0) | 1;
    }

    private boolean writeDraft() {
        int start = Image.recordPlace(catalog.recordCount());
        for (int j = 0; j < Image.RECORD_WORDS; j++) {
            if (!writeWord(start + j, draft[j])) {
                return false;
            }
        }
        return true;
    }

    private boolean writeWord(int at, int v) {
        if (wordsBeforeCut == 0) {
            wordsBeforeCut = NO_CUT;
            powered = false;
            return false;
        }
        if (wordsBeforeCut > 0) {
            wordsBeforeCut--;
        }
        image.store(at, v);
        return true;
    }

    private void wipeWhatIsNotSound() {
        image.wipeRecordsFrom(catalog.recordCount());
        for (int id = 1; id <= MOST_OBJECTS; id++) {
            if (!catalog.mayKeepKey(id)) {
                image.store(Image.keyPlace(id), 0);
            }
        }
    }

    private long digestOnTheWay(int k) {
        if (k < 0 || k >= descent.digestCount()) {
            return NONE;
        }
        return image.tree(descent.firstUnder(k), descent.countUnder(k));
    }

    /** The arithmetic of digests. */
    private static final class Digests {
        static int mix(int a, int b) {
            int y = (Integer.rotateLeft(a, 11) ^ b) * 48271001 + 12345;
            return y ^ (y >>> 15);
        }

        static int node(int a, int b) {
            return mix(mix(2, a), b);
        }

        /** What word j of an object is hidden under. */
        static int pad(int key, int id, int j) {
            return mix(mix(key, id), j);
        }

        static int leafAt(int[] words, int start) {
            int h = 1;
            if (start < 0 || start > words.length - Image.CHECK) {
                return h;
            }
            for (int j = 0; j < Image.CHECK; j++) {
                h = mix(h, words[start + j]);
            }
            return h;
        }
    }

    /** The words that outlast a failure of the power. */
    private static final class Image {
        static final int KIND = 0;
        static final int ID = 1;
        static final int VALUE = 2;
        static final int C0 = 3;
        static final int C1 = 4;
        static final int TIME = 5;
        static final int CHECK = 6;
        static final int RECORD_WORDS = 7;
        static final int KEYS_START = 279;
        static final int SIZE = 292;

        private final int[] words = new int[SIZE];
        private final int[] level = new int[MOST_RECORDS];

        static boolean hasPlace(int at) {
            return 0 <= at && at < SIZE;
        }

        static int recordPlace(int r) {
            return RECORD_WORDS * r;
        }

        static int keyPlace(int id) {
            return KEYS_START + id;
        }

        int read(int at) {
            return hasPlace(at) ? words[at] : 0;
        }

        void store(int at, int v) {
            if (hasPlace(at)) {
                words[at] = v;
            }
        }

        int field(int r, int which) {
            return read(recordPlace(r) + which);
        }

        boolean checkIsRight(int r) {
            return field(r, CHECK) == (leaf(r) | 1);
        }

        void wipeRecordsFrom(int r) {
            int end = recordPlace(MOST_RECORDS);
            for (int at = recordPlace(r); at < end; at++) {
                store(at, 0);
            }
        }

        int rootOf(int n) {
            return n == 0 ? 0 : tree(0, n);
        }

        /**
         * Joins neighbours level by level, an odd last one going up alone: the same tree as
         * splitting at the greatest power of two, without recursion.
         */
        int tree(int first, int count) {
            if (first < 0 || count < 1 || count > MOST_RECORDS - first) {
                return 0;
            }
            for (int j = 0; j < count; j++) {
                level[j] = leaf(first + j);
            }
            for (int width = count; width > 1; width = (width + 1) / 2) {
                joinNeighbours(width);
            }
            return level[0];
        }

        private void joinNeighbours(int width) {
            int pairs = width / 2;
            for (int j = 0; j < pairs; j++) {
                level[j] = Digests.node(level[2 * j], level[2 * j + 1]);
            }
            if (width % 2 == 1) {
                level[pairs] = level[width - 1];
            }
        }

        private int leaf(int r) {
            return Digests.leafAt(words, recordPlace(r));
        }
    }

    /** The objects as a row of records made them, and the rules for the next record. */
    private static final class Catalog {
        static final int LIVE = 1;
        static final int DELETED = 2;
        static final int SHREDDED = 3;
        static final int LAST_DATE = 1000000;
        static final int LAST_HOLD = 7;

        private final int[] state = new int[MOST_OBJECTS + 1];
        private final int[] date = new int[MOST_OBJECTS + 1];
        private final int[] holds = new int[MOST_OBJECTS + 1];
        private final int[] putRecord = new int[MOST_OBJECTS + 1];
        private int objects = 0;
        private int entered = 0;

        int recordCount() {
            return entered;
        }

        int nextId() {
            return objects + 1;
        }

        boolean isThere(int id) {
            return 1 <= id && id <= objects;
        }

        boolean isLive(int id) {
            return stateOf(id) == LIVE;
        }

        boolean mayKeepKey(int id) {
            return isThere(id) && stateOf(id) != SHREDDED;
        }

        int stateOf(int id) {
            return isThere(id) ? state[id] : 0;
        }

        int dateOf(int id) {
            return isThere(id) ? date[id] : 0;
        }

        int holdsOf(int id) {
            return isThere(id) ? holds[id] : 0;
        }

        int putRecordOf(int id) {
            return isThere(id) ? putRecord[id] : 0;
        }

        /** The first rule that such a record would break at a time, or ALLOWED. */
        int verdict(int kind, int id, int value, int time) {
            int broken = verdictOfKind(kind, id, value, time);
            if (broken == ALLOWED && entered >= MOST_RECORDS) {
                return FULL;
            }
            return broken;
        }

        private int verdictOfKind(int kind, int id, int value, int time) {
            switch (kind) {
                case PUT:
                    return putVerdict(value, time);
                case EXTEND:
                    return extendVerdict(id, value);
                case HOLD:
                    return holdVerdict(id, value, true);
                case RELEASE:
                    return holdVerdict(id, value, false);
                case DELETE:
                    return endVerdict(id, stateOf(id) != LIVE, time);
                case SHRED:
                    return endVerdict(id, stateOf(id) == SHREDDED, time);
                default:
                    return BAD;
            }
        }

        private int putVerdict(int until, int time) {
            if (!isDate(until)) {
                return BAD;
            }
            if (until < time) {
                return SHORT;
            }
            return objects >= MOST_OBJECTS ? FULL : ALLOWED;
        }

        private int extendVerdict(int id, int until) {
            if (!isDate(until)) {
                return BAD;
            }
            if (!isThere(id)) {
                return ABSENT;
            }
            if (state[id] != LIVE) {
                return GONE;
            }
            return until <= date[id] ? SHORT : ALLOWED;
        }

        private int holdVerdict(int id, int number, boolean set) {
            if (number < 0 || number > LAST_HOLD) {
                return BAD;
            }
            if (!isThere(id)) {
                return ABSENT;
            }
            if (state[id] != LIVE) {
                return GONE;
            }
            boolean isSet = (holds[id] & (1 << number)) != 0;
            return isSet == set ? SAME : ALLOWED;
        }

        private int endVerdict(int id, boolean gone, int time) {
            if (!isThere(id)) {
                return ABSENT;
            }
            if (gone) {
                return GONE;
            }
            if (holds[id] != 0) {
                return HELD;
            }
            return time < date[id] ? EARLY : ALLOWED;
        }

        private static boolean isDate(int value) {
            return 0 <= value && value <= LAST_DATE;
        }

        /** Enters a record that the verdict allowed. */
        void enter(int kind, int id, int value) {
            if (kind == PUT) {
                addObject(value);
            } else if (isThere(id)) {
                changeObject(kind, id, value);
            }
            entered++;
        }

        private void addObject(int until) {
            if (objects >= MOST_OBJECTS) {
                return;
            }
            objects++;
            state[objects] = LIVE;
            date[objects] = until;
            holds[objects] = 0;
            putRecord[objects] = entered;
        }

        private void changeObject(int kind, int id, int value) {
            switch (kind) {
                case EXTEND:
                    date[id] = value;
                    break;
                case HOLD:
                    holds[id] |= 1 << value;
                    break;
                case RELEASE:
                    holds[id] &= ~(1 << value);
                    break;
                case DELETE:
                    state[id] = DELETED;
                    break;
                case SHRED:
                    state[id] = SHREDDED;
                    break;
                default:
                    break;
            }
        }

        /** Forgets all, then enters the sound records of an image. */
        void replay(Image image, int clock) {
            objects = 0;
            entered = 0;
            for (int r = 0; r < MOST_RECORDS; r++) {
                if (!isSoundNext(image, r, clock)) {
                    return;
                }
                enter(image.field(r, Image.KIND), image.field(r, Image.ID), image.field(r, Image.VALUE));
            }
        }

        private boolean isSoundNext(Image image, int r, int clock) {
            return image.checkIsRight(r)
                && isTimely(image, r, clock)
                && isWellFormed(image, r)
                && verdict(image.field(r, Image.KIND), image.field(r, Image.ID),
                    image.field(r, Image.VALUE), image.field(r, Image.TIME)) == ALLOWED;
        }

        private static boolean isTimely(Image image, int r, int clock) {
            int time = image.field(r, Image.TIME);
            int before = r == 0 ? 0 : image.field(r - 1, Image.TIME);
            return before <= time && time <= clock;
        }

        private boolean isWellFormed(Image image, int r) {
            int kind = image.field(r, Image.KIND);
            if (kind == PUT) {
                return image.field(r, Image.ID) == nextId();
            }
            if (image.field(r, Image.C0) != 0 || image.field(r, Image.C1) != 0) {
                return false;
            }
            boolean ends = kind == DELETE || kind == SHRED;
            return !ends || image.field(r, Image.VALUE) == 0;
        }
    }

    /**
     * The way down a tree of records, and the side trees that it passes. A BRIDGE of m goes the
     * way of the PATH to record m - 1, but stops at the first tree that ends with that record.
     */
    private static final class Descent {
        // Forty records are split six times at most.
        static final int MOST_STEPS = 6;

        private final boolean[] wentRight = new boolean[MOST_STEPS];
        private final int[] sideFirst = new int[MOST_STEPS];
        private final int[] sideCount = new int[MOST_STEPS];
        private int steps = 0;
        private int footFirst = 0;
        private int footCount = 0;
        private boolean footIsShown = false;

        void toLeaf(int i, int n) {
            goDown(i, n, false);
            footIsShown = true;
        }

        void toEdge(int m, int n) {
            goDown(m - 1, n, true);
            // A bridge that never went right ends at the early root itself, which the asker has.
            footIsShown = footFirst > 0;
        }

        private void goDown(int target, int n, boolean stopAtEdge) {
            steps = 0;
            footFirst = 0;
            footCount = n;
            for (int s = 0; s < MOST_STEPS; s++) {
                boolean atEdge = stopAtEdge && target == footFirst + footCount - 1;
                if (footCount <= 1 || atEdge) {
                    return;
                }
                stepTowards(target, s);
                steps++;
            }
        }

        private void stepTowards(int target, int s) {
            int k = Integer.highestOneBit(footCount - 1);
            boolean right = target >= footFirst + k;
            wentRight[s] = right;
            sideFirst[s] = right ? footFirst : footFirst + k;
            sideCount[s] = right ? k : footCount - k;
            footFirst = right ? footFirst + k : footFirst;
            footCount = right ? footCount - k : k;
        }

        boolean showsFoot() {
            return footIsShown;
        }

        int digestCount() {
            return footIsShown ? steps + 1 : steps;
        }

        int firstUnder(int k) {
            int s = stepOf(k);
            return 0 <= s && s < steps ? sideFirst[s] : footFirst;
        }

        int countUnder(int k) {
            int s = stepOf(k);
            return 0 <= s && s < steps ? sideCount[s] : footCount;
        }

        boolean wentRightAbove(int k) {
            int s = stepOf(k);
            return 0 <= s && s < steps && wentRight[s];
        }

        /** Digests stand in their row from the foot up, steps from the top down. */
        private int stepOf(int k) {
            return digestCount() - 1 - k;
        }
    }

    /** The words that a proof from outside consists of. */
    private static final class FedWords {
        static final int MOST_FED = 12;

        private final int[] fed = new int[MOST_FED];
        private int count = 0;

        boolean add(int w) {
            if (count >= MOST_FED) {
                return false;
            }
            fed[count] = w;
            count++;
            return true;
        }

        void clear() {
            count = 0;
        }

        boolean proveLeaf(Descent way, int root) {
            if (count != way.digestCount()) {
                return false;
            }
            int risen = fed[0];
            for (int k = 1; k < count; k++) {
                risen = way.wentRightAbove(k) ? Digests.node(fed[k], risen) : Digests.node(risen, fed[k]);
            }
            return risen == root;
        }

        boolean proveGrowth(Descent way, int early, int late) {
            if (count != way.digestCount()) {
                return false;
            }
            int foot = way.showsFoot() ? fed[0] : early;
            int older = foot;
            int newer = foot;
            for (int k = way.showsFoot() ? 1 : 0; k < count; k++) {
                if (way.wentRightAbove(k)) {
                    older = Digests.node(fed[k], older);
                    newer = Digests.node(fed[k], newer);
                } else {
                    newer = Digests.node(newer, fed[k]);
                }
            }
            return older == early && newer == late;
        }
    }
}
