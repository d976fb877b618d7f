/**
 * Answers about names that can be trusted: a question goes from an anchor down from zone to zone,
 * by keys that are sealed above, and it is always told why it was answered as it was.
 */
public final class TrustResolver {
    public static final int NONE = -1;
    public static final int FULL = -2;
    public static final int TRUE = 0;
    public static final int OPEN = 1;
    public static final int FALSE = 2;
    public static final int UNKNOWN = 3;

    private static final int HOST = 1;
    private static final int CUT = 2;
    private static final int SEAL = 3;
    private static final int KEY = 4;
    private static final int NEXT = 5;

    private static final int MOST_RECORDS = 48;
    private static final int MOST_SIGNATURES = 32;
    private static final int MOST_ANCHORS = 4;
    private static final int MOST_KEY = 1000000;
    private static final int MOST_TICK = 100000;

    private static final int NOTHING_ASKED = 0;
    private static final int NO_ANCHOR = 1;
    private static final int NO_KEYS = 2;
    private static final int NO_SEALED_KEY = 3;
    private static final int KEYS_NOT_PLAIN = 4;
    private static final int SEALS_NOT_PLAIN = 5;
    private static final int CUT_IS_OPEN = 6;
    private static final int CUT_NOT_PROVEN = 7;
    private static final int SET_IS_PLAIN = 8;
    private static final int SET_FROM_STAR = 9;
    private static final int STAR_NOT_ALLOWED = 10;
    private static final int SET_NOT_SIGNED = 11;
    private static final int NO_SUCH_TYPE = 12;
    private static final int TYPE_WITHHELD = 13;
    private static final int NAME_NOT_COVERED = 14;
    private static final int NO_SUCH_NAME = 15;
    private static final int STAR_WITHOUT_TYPE = 16;
    private static final int STAR_NOT_PROVEN = 17;

    private final Records records;
    private final Signatures signatures;
    private final Anchors anchors;
    private final Question question;

    public TrustResolver() {
        records = new Records();
        signatures = new Signatures(records);
        anchors = new Anchors();
        question = new Question(records, signatures, anchors);
    }

    public int add(int owner, int type, int data) {
        if (!Names.isName(owner) || !isType(type) || !isData(type, data)) {
            return NONE;
        }
        return records.put(Names.setOf(owner, type), data);
    }

    public int drop(int owner, int type) {
        if (!Names.isName(owner) || !isType(type)) {
            return NONE;
        }
        return records.empty(Names.setOf(owner, type));
    }

    public boolean window(int first, int last) {
        if (first < 0 || last < first) {
            return false;
        }
        signatures.useTimes(first, last);
        return true;
    }

    public int sign(int owner, int type, int signer, int key, int labels) {
        if (!Names.isName(owner) || !Names.isName(signer) || !isType(type) || !isKey(key)) {
            return NONE;
        }
        if (labels < 0 || labels > Names.depth(owner)) {
            return NONE;
        }
        int set = Names.setOf(owner, type);
        if (records.sizeOf(set) == 0) {
            return NONE;
        }
        return signatures.make(set, signer, key, labels);
    }

    public boolean spoil(int signature, int more) {
        return signatures.shiftMark(signature, more);
    }

    public int seal(int zone, int key) {
        if (!Names.isName(zone) || !isKey(key)) {
            return NONE;
        }
        return Digests.sealOf(zone, key);
    }

    public int anchor(int zone, int digest) {
        if (!Names.isName(zone) || digest < 0) {
            return NONE;
        }
        return anchors.put(zone, digest);
    }

    public int tick(int n) {
        if (n < 0 || n > MOST_TICK) {
            return NONE;
        }
        return signatures.passTime(n);
    }

    public int ask(int name, int type) {
        if (!Names.isName(name) || !isType(type)) {
            return NONE;
        }
        question.pose(name, type);
        return verdictOf(question.why);
    }

    public int reason() {
        return question.why;
    }

    public int answer(int k) {
        return question.dataNow(k);
    }

    public int zone(int k) {
        return question.zoneAt(k);
    }

    public int figure(int what) {
        switch (what) {
            case 0:
                return records.count;
            case 1:
                return signatures.count;
            case 2:
                return signatures.now;
            case 3:
                return question.countedKeys;
            default:
                return NONE;
        }
    }

    public int above(int name, int other) {
        if (!Names.isName(name) || !Names.isName(other)) {
            return NONE - 1;
        }
        if (name == other) {
            return 0;
        }
        return Names.isOrAbove(name, other) ? -1 : 1;
    }

    private static boolean isType(int type) {
        return type >= HOST && type <= NEXT;
    }

    private static boolean isKey(int key) {
        return key >= 1 && key <= MOST_KEY;
    }

    private static boolean isData(int type, int data) {
        switch (type) {
            case SEAL:
                return data >= 0;
            case KEY:
                return isKey(data);
            case NEXT:
                return Told.isTold(data);
            default:
                return true;
        }
    }

    private static int verdictOf(int why) {
        switch (why) {
            case NO_ANCHOR:
                return UNKNOWN;
            case CUT_IS_OPEN:
                return OPEN;
            case SET_IS_PLAIN:
            case SET_FROM_STAR:
            case NO_SUCH_TYPE:
            case NO_SUCH_NAME:
            case STAR_WITHOUT_TYPE:
                return TRUE;
            default:
                return FALSE;
        }
    }

    /** Names as ints of four labels, and sets, which are a name and a type in one int. */
    private static final class Names {
        private static final int MOST_DEPTH = 4;
        private static final int LABEL_BITS = 5;
        private static final int NAME_BITS = 20;
        private static final int TOP_SHIFT = 15;
        private static final int LABEL_MASK = 31;
        private static final int MOST_LABEL = 27;
        private static final int STAR_LABEL = 1;
        private static final int TYPE_BITS = 3;

        static boolean isName(int name) {
            if (name < 0 || name >= 1 << NAME_BITS) {
                return false;
            }
            boolean ended = false;
            for (int shift = TOP_SHIFT; shift >= 0; shift -= LABEL_BITS) {
                int label = name >> shift & LABEL_MASK;
                if (label > MOST_LABEL || (ended && label != 0)) {
                    return false;
                }
                ended = label == 0;
            }
            return true;
        }

        static int depth(int name) {
            int depth = 0;
            for (int shift = TOP_SHIFT; shift >= 0; shift -= LABEL_BITS) {
                if ((name >> shift & LABEL_MASK) != 0) {
                    depth++;
                }
            }
            return depth;
        }

        static int firstLabels(int name, int labels) {
            int cutOff = NAME_BITS - LABEL_BITS * labels;
            return name >> cutOff << cutOff;
        }

        static boolean isOrAbove(int name, int other) {
            return firstLabels(other, depth(name)) == name;
        }

        static int starOf(int name) {
            return name | STAR_LABEL << (TOP_SHIFT - LABEL_BITS * depth(name));
        }

        static int setOf(int owner, int type) {
            return owner << TYPE_BITS | type;
        }

        static int ownerOf(int set) {
            return set >> TYPE_BITS;
        }

        static int typeOf(int set) {
            return set & ((1 << TYPE_BITS) - 1);
        }
    }

    /** What the data of a NEXT tells: the name that follows, and the types that its owner has. */
    private static final class Told {
        private static final int TYPES = NEXT;

        static boolean isTold(int data) {
            return data >= 0 && data < 1 << (Names.NAME_BITS + TYPES) && Names.isName(nameIn(data));
        }

        static int nameIn(int data) {
            return data & ((1 << Names.NAME_BITS) - 1);
        }

        static boolean hasType(int data, int type) {
            return (data >> (Names.NAME_BITS + type - 1) & 1) != 0;
        }
    }

    private static final class Digests {
        private static final long FACTOR = 0x9E3779B97F4A7C15L;
        private static final int SEAL_BEGIN = 77;

        static long mix(long h, int x) {
            long product = (h ^ x) * FACTOR;
            return product ^ (product >>> 30);
        }

        static int end(long h) {
            return (int) (h >>> 33);
        }

        static int sealOf(int zone, int key) {
            return end(mix(mix(mix(0L, SEAL_BEGIN), zone), key));
        }
    }

    /** All records, kept by rising set and data, so that a set is a run of rows in its due order. */
    private static final class Records {
        private final int[] sets = new int[MOST_RECORDS];
        private final int[] datas = new int[MOST_RECORDS];
        private int count = 0;

        int put(int set, int data) {
            int row = rowFor(set, data);
            if (row < count && sets[row] == set && datas[row] == data) {
                return sizeOf(set);
            }
            if (count >= MOST_RECORDS) {
                return FULL;
            }
            for (int k = count; k > row; k--) {
                sets[k] = sets[k - 1];
                datas[k] = datas[k - 1];
            }
            sets[row] = set;
            datas[row] = data;
            count++;
            return sizeOf(set);
        }

        int empty(int set) {
            int kept = 0;
            for (int row = 0; row < count; row++) {
                if (sets[row] != set) {
                    sets[kept] = sets[row];
                    datas[kept] = datas[row];
                    kept++;
                }
            }
            int gone = count - kept;
            count = kept;
            return gone;
        }

        int sizeOf(int set) {
            int size = 0;
            for (int row = 0; row < count; row++) {
                if (sets[row] == set) {
                    size++;
                }
            }
            return size;
        }

        int startOf(int set) {
            int row = 0;
            while (row < count && sets[row] < set) {
                row++;
            }
            return row;
        }

        int setAt(int row) {
            return row >= 0 && row < count ? sets[row] : NONE;
        }

        int dataAt(int row) {
            return row >= 0 && row < count ? datas[row] : 0;
        }

        int leastOf(int set) {
            return dataAt(startOf(set));
        }

        private int rowFor(int set, int data) {
            int row = startOf(set);
            while (row < count && sets[row] == set && datas[row] < data) {
                row++;
            }
            return row;
        }
    }

    /** All signatures, the times that new ones get, and which of them are good as last judged. */
    private static final class Signatures {
        private final Records records;
        private final int[] sets = new int[MOST_SIGNATURES];
        private final int[] signers = new int[MOST_SIGNATURES];
        private final int[] keys = new int[MOST_SIGNATURES];
        private final int[] labels = new int[MOST_SIGNATURES];
        private final int[] firsts = new int[MOST_SIGNATURES];
        private final int[] lasts = new int[MOST_SIGNATURES];
        private final int[] signedNames = new int[MOST_SIGNATURES];
        private final int[] marks = new int[MOST_SIGNATURES];
        private final boolean[] good = new boolean[MOST_SIGNATURES];
        private final boolean[] plain = new boolean[MOST_SIGNATURES];
        private int count = 0;
        private int newFirst = 0;
        private int newLast = 1000;
        private int now = 0;

        Signatures(Records records) {
            this.records = records;
        }

        void useTimes(int first, int last) {
            newFirst = first;
            newLast = last;
        }

        int passTime(int n) {
            now += n;
            return now;
        }

        int make(int set, int signer, int key, int labelCount) {
            if (count >= MOST_SIGNATURES) {
                return FULL;
            }
            int made = count;
            count++;
            sets[made] = set;
            signers[made] = signer;
            keys[made] = key;
            labels[made] = labelCount;
            firsts[made] = newFirst;
            lasts[made] = newLast;
            signedNames[made] = signedName(Names.ownerOf(set), labelCount);
            marks[made] = markNow(made);
            return made;
        }

        boolean shiftMark(int number, int more) {
            if (number < 0 || number >= count) {
                return false;
            }
            marks[number] += more;
            return true;
        }

        /** Goodness hangs on the zone and its keys alone, so it is judged once for each of these. */
        void judge(int zone, Numbers trustedKeys) {
            for (int s = 0; s < count; s++) {
                good[s] = isGood(s, zone, trustedKeys);
                plain[s] = good[s] && labels[s] == Names.depth(Names.ownerOf(sets[s]));
            }
        }

        boolean isPlain(int set) {
            for (int s = 0; s < count; s++) {
                if (plain[s] && sets[s] == set) {
                    return true;
                }
            }
            return false;
        }

        int labelsOfFirstGood(int set) {
            for (int s = 0; s < count; s++) {
                if (good[s] && sets[s] == set) {
                    return labels[s];
                }
            }
            return NONE;
        }

        private boolean isGood(int s, int zone, Numbers trustedKeys) {
            return signers[s] == zone
                    && Names.isOrAbove(zone, Names.ownerOf(sets[s]))
                    && trustedKeys.has(keys[s])
                    && now >= firsts[s]
                    && now <= lasts[s]
                    && records.sizeOf(sets[s]) > 0
                    && marks[s] == markNow(s);
        }

        private int markNow(int s) {
            long h = Digests.mix(0L, keys[s]);
            h = Digests.mix(h, signers[s]);
            h = Digests.mix(h, Names.typeOf(sets[s]));
            h = Digests.mix(h, labels[s]);
            h = Digests.mix(h, firsts[s]);
            h = Digests.mix(h, lasts[s]);
            h = Digests.mix(h, signedNames[s]);
            int start = records.startOf(sets[s]);
            int size = records.sizeOf(sets[s]);
            for (int k = 0; k < size; k++) {
                h = Digests.mix(h, records.dataAt(start + k));
            }
            return Digests.end(h);
        }

        private static int signedName(int owner, int labelCount) {
            if (labelCount >= Names.depth(owner)) {
                return owner;
            }
            return Names.starOf(Names.firstLabels(owner, labelCount));
        }
    }

    private static final class Anchors {
        private final int[] zones = new int[MOST_ANCHORS];
        private final int[] digests = new int[MOST_ANCHORS];
        private int count = 0;

        int put(int zone, int digest) {
            int row = 0;
            while (row < count && zones[row] != zone) {
                row++;
            }
            if (row >= MOST_ANCHORS) {
                return FULL;
            }
            zones[row] = zone;
            digests[row] = digest;
            if (row == count) {
                count++;
            }
            return count;
        }

        /** Of the anchors that are a name or above it, the deepest is also the greatest int. */
        int deepestFor(int name) {
            int deepest = NONE;
            for (int row = 0; row < count; row++) {
                if (Names.isOrAbove(zones[row], name) && zones[row] > deepest) {
                    deepest = zones[row];
                }
            }
            return deepest;
        }

        int digestOf(int zone) {
            for (int row = 0; row < count; row++) {
                if (zones[row] == zone) {
                    return digests[row];
                }
            }
            return NONE;
        }
    }

    /** Some of the data of a set: the digests that are trusted, or the keys. */
    private static final class Numbers {
        private final int[] numbers = new int[MOST_RECORDS];
        private int count = 0;

        void clear() {
            count = 0;
        }

        void put(int number) {
            if (count < MOST_RECORDS) {
                numbers[count] = number;
                count++;
            }
        }

        boolean has(int number) {
            for (int k = 0; k < count; k++) {
                if (numbers[k] == number) {
                    return true;
                }
            }
            return false;
        }
    }

    /** What was asked last, the zones it went through, and why it ended. */
    private static final class Question {
        private static final int GOES_ON = 0;

        private final Records records;
        private final Signatures signatures;
        private final Anchors anchors;
        private final Numbers digests = new Numbers();
        private final Numbers keys = new Numbers();
        private final int[] zones = new int[Names.MOST_DEPTH + 1];
        private int zoneCount = 0;
        private int zone = 0;
        private int name = 0;
        private int type = HOST;
        private int countedKeys = 0;
        private int why = NOTHING_ASKED;

        Question(Records records, Signatures signatures, Anchors anchors) {
            this.records = records;
            this.signatures = signatures;
            this.anchors = anchors;
        }

        void pose(int askedName, int askedType) {
            name = askedName;
            type = askedType;
            zoneCount = 0;
            countedKeys = 0;
            int start = anchors.deepestFor(name);
            if (start == NONE) {
                why = NO_ANCHOR;
                return;
            }
            digests.clear();
            digests.put(anchors.digestOf(start));
            enter(start);
            int asked = Names.setOf(name, type);
            why = GOES_ON;
            for (int step = 0; step <= Names.MOST_DEPTH && why == GOES_ON; step++) {
                why = whyNoKeys();
                if (why == GOES_ON) {
                    int cut = nextCut();
                    if (cut != NONE) {
                        why = whyNotOver(cut);
                    } else {
                        why = records.sizeOf(asked) > 0 ? whyThere(asked) : whyAbsent();
                    }
                }
            }
        }

        int zoneAt(int k) {
            return k >= 0 && k < zoneCount ? zones[k] : NONE;
        }

        int dataNow(int k) {
            int set = Names.setOf(name, type);
            if (why != SET_IS_PLAIN && why != SET_FROM_STAR) {
                return 0;
            }
            return k >= 0 && k < records.sizeOf(set) ? records.dataAt(records.startOf(set) + k) : 0;
        }

        private void enter(int next) {
            zone = next;
            countedKeys = 0;
            if (zoneCount < zones.length) {
                zones[zoneCount] = next;
                zoneCount++;
            }
        }

        private int whyNoKeys() {
            int set = Names.setOf(zone, KEY);
            if (records.sizeOf(set) == 0) {
                return NO_KEYS;
            }
            takeSealedKeys(set);
            if (keys.count == 0) {
                return NO_SEALED_KEY;
            }
            signatures.judge(zone, keys);
            if (!signatures.isPlain(set)) {
                return KEYS_NOT_PLAIN;
            }
            takeSet(keys, set);
            countedKeys = keys.count;
            signatures.judge(zone, keys);
            return GOES_ON;
        }

        private void takeSealedKeys(int set) {
            int start = records.startOf(set);
            int size = records.sizeOf(set);
            keys.clear();
            for (int k = 0; k < size; k++) {
                int key = records.dataAt(start + k);
                if (digests.has(Digests.sealOf(zone, key))) {
                    keys.put(key);
                }
            }
        }

        private void takeSet(Numbers into, int set) {
            int start = records.startOf(set);
            int size = records.sizeOf(set);
            into.clear();
            for (int k = 0; k < size; k++) {
                into.put(records.dataAt(start + k));
            }
        }

        /** A name's own seals are told by the zone above it, so asking for them stops short of it. */
        private int nextCut() {
            int deepest = Names.depth(name) - (type == SEAL ? 1 : 0);
            for (int depth = Names.depth(zone) + 1; depth <= deepest; depth++) {
                int below = Names.firstLabels(name, depth);
                if (records.sizeOf(Names.setOf(below, CUT)) > 0) {
                    return below;
                }
            }
            return NONE;
        }

        private int whyNotOver(int cut) {
            int seals = Names.setOf(cut, SEAL);
            if (records.sizeOf(seals) > 0) {
                if (!signatures.isPlain(seals)) {
                    return SEALS_NOT_PLAIN;
                }
                takeSet(digests, seals);
                enter(cut);
                return GOES_ON;
            }
            int next = Names.setOf(cut, NEXT);
            boolean proven = signatures.isPlain(next) && tells(next, CUT) && !tells(next, SEAL);
            return proven ? CUT_IS_OPEN : CUT_NOT_PROVEN;
        }

        private int whyThere(int set) {
            if (signatures.isPlain(set)) {
                return SET_IS_PLAIN;
            }
            int labels = signatures.labelsOfFirstGood(set);
            if (labels == NONE) {
                return SET_NOT_SIGNED;
            }
            return isCovered(Names.firstLabels(name, labels + 1)) ? SET_FROM_STAR : STAR_NOT_ALLOWED;
        }

        private int whyAbsent() {
            int next = Names.setOf(name, NEXT);
            if (signatures.isPlain(next)) {
                return tells(next, type) ? TYPE_WITHHELD : NO_SUCH_TYPE;
            }
            if (name == zone) {
                return NAME_NOT_COVERED;
            }
            int closest = closestKnown();
            if (!isCovered(Names.firstLabels(name, Names.depth(closest) + 1))) {
                return NAME_NOT_COVERED;
            }
            int star = Names.starOf(closest);
            if (isCovered(star)) {
                return NO_SUCH_NAME;
            }
            int starNext = Names.setOf(star, NEXT);
            boolean proven = signatures.isPlain(starNext) && !tells(starNext, type);
            return proven ? STAR_WITHOUT_TYPE : STAR_NOT_PROVEN;
        }

        private int closestKnown() {
            for (int depth = Names.depth(name) - 1; depth > Names.depth(zone); depth--) {
                int candidate = Names.firstLabels(name, depth);
                if (isKnown(candidate)) {
                    return candidate;
                }
            }
            return zone;
        }

        private boolean isKnown(int candidate) {
            for (int row = 0; row < records.count; row++) {
                int set = records.setAt(row);
                if (isPlainNext(set) && Names.isOrAbove(candidate, Names.ownerOf(set))) {
                    return true;
                }
            }
            return false;
        }

        private boolean isCovered(int x) {
            for (int row = 0; row < records.count; row++) {
                int set = records.setAt(row);
                if (Names.ownerOf(set) < x && isPlainNext(set)) {
                    int end = Told.nameIn(records.leastOf(set));
                    if (x < end || end == zone) {
                        return true;
                    }
                }
            }
            return false;
        }

        private boolean isPlainNext(int set) {
            return Names.typeOf(set) == NEXT && signatures.isPlain(set);
        }

        private boolean tells(int next, int told) {
            return Told.hasType(records.leastOf(next), told);
        }
    }
}
