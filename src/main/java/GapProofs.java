/**
 * Zones that prove what is not there. What each call does and answers is told by the document's
 * promises; the words in capitals there (OWNER, LINK, COVERS ...) are the words used here.
 *
 * Every row is made in a constructor and used again, so that a call makes no object at all.
 */
public final class GapProofs {
    public static final int BAD = -1, STATE = -2, FULL = -3, NONE = -4;

    private static final int TAPE_BYTES = 200;
    private static final int MOST_LABELS = 4;
    private static final int MOST_LETTERS = 3;
    private static final int MOST_ZONES = 4;
    private static final int MOST_RECORDS = 24;
    private static final int MOST_OWNERS = MOST_RECORDS + MOST_ZONES;
    private static final int MOST_OUT = 3;
    private static final int MOST_DIGESTS = 2;
    private static final int MOST_ENTRIES = 4;
    // One for ZONE 0, two for each further ZONE, two for the ANSWER, and one to spare.
    private static final int MOST_ITEMS = 10;
    private static final int IMAGE_COUNT = 2;
    private static final int SORT_COUNT = 3;
    private static final int NUMBERS = 3;

    private static final int MOST_VALUE = 99;
    private static final int MOST_KEY = 999;
    private static final int MOST_TICK = 1000000000;
    private static final long MOST_CLOCK = 2147483647L;
    private static final int FIRST_KEY = 10;
    private static final int MODULUS = 9973;

    private static final int DIGESTS = 0, KEYS = 1, RECORD = 2, LINK = 3;
    private static final int FOUND = 0, NO_SORT = 1, WILD = 2, WILD_NO_SORT = 3, NO_NAME = 4, INSECURE = 5;
    private static final int BIT_CHILD = 8, BIT_SIGNED_CHILD = 16, BIT_APEX = 32;
    private static final int FAULT_BASE = -10, BROKEN_BASE = -20;

    private final Reader reader;
    private final Tree tree;
    private final World now;
    private final World[] images;
    private final boolean[] kept;
    private final Owners owners;
    private final Proof proof;
    private final Validator validator;
    private long theName;

    public GapProofs() {
        reader = new Reader();
        tree = new Tree();
        now = new World();
        images = new World[IMAGE_COUNT];
        for (int k = 0; k < IMAGE_COUNT; k++) {
            images[k] = new World();
        }
        kept = new boolean[IMAGE_COUNT];
        owners = new Owners(tree, now);
        proof = new Proof(tree, now, owners);
        validator = new Validator(tree, now, proof);
        startAnew();
    }

    // ---- the text

    public int feed(int c) {
        if (c < 0 || c > 127) {
            return BAD;
        }
        if (reader.length >= TAPE_BYTES) {
            return FULL;
        }
        reader.tape[reader.length] = (byte) c;
        reader.length++;
        return reader.length;
    }

    public int end(int n) {
        int had = reader.length;
        if (n < 0 || n > had) {
            return BAD;
        }
        reader.length = n;
        return had;
    }

    public int text() {
        int lines = reader.readTape();
        reader.length = 0;
        if (reader.faultNumber != 0) {
            return FAULT_BASE - reader.faultPlace;
        }
        tree.copyFrom(reader.tree);
        now.records.copyFrom(reader.records);
        startAnew();
        return lines;
    }

    public int fault() {
        return reader.faultNumber;
    }

    private void startAnew() {
        now.startAnew(tree);
        proof.made = false;
        validator.ran = false;
        for (int k = 0; k < IMAGE_COUNT; k++) {
            kept[k] = false;
        }
        theName = Names.ROOT;
    }

    // ---- names, zones

    public int label(int a, int b, int c) {
        int code = Names.labelOf(a, b, c);
        if (code == 0) {
            return BAD;
        }
        if (Names.count(theName) >= MOST_LABELS) {
            return FULL;
        }
        theName = Names.longer(theName, code);
        return Names.count(theName);
    }

    public int up(int n) {
        int labels = Names.count(theName);
        if (n < 0 || n > labels) {
            return BAD;
        }
        theName = Names.first(theName, labels - n);
        return labels - n;
    }

    public int owner(int z, int i) {
        if (!tree.has(z) || i < 0) {
            return BAD;
        }
        owners.gather(z);
        if (i >= owners.count) {
            return NONE;
        }
        theName = owners.names[i];
        return Names.count(theName);
    }

    public int name(int what) {
        if (what < 0 || what > 6) {
            return BAD;
        }
        if (what == 0) {
            return Names.count(theName);
        }
        int z = tree.zoneOf(theName);
        if (what == 1) {
            return z;
        }
        owners.gather(z);
        int at = owners.indexOf(theName);
        switch (what) {
            case 2:
                return owners.closestLabels(theName) == Names.count(theName) ? 1 : 0;
            case 3:
                return at < 0 ? 0 : owners.sorts[at];
            case 4:
                return at < 0 ? NONE : at;
            case 5:
                return owners.howManyAhead(theName);
            default:
                return owners.closestLabels(theName);
        }
    }

    public int letter(int i, int k) {
        if (i < 0 || i >= Names.count(theName) || k < 0 || k >= MOST_LETTERS) {
            return BAD;
        }
        return Names.letterAt(Names.labelAt(theName, i), k);
    }

    public int zone(int z, int what) {
        if (!tree.has(z) || what < 0 || what > 7) {
            return BAD;
        }
        switch (what) {
            case 0:
                return tree.signed[z] ? 1 : 0;
            case 1:
                return tree.parents[z];
            case 2:
                return tree.labels[z];
            case 3:
                owners.gather(z);
                return owners.count;
            case 4:
                return recordsIn(z);
            case 5:
                return now.out[z].count;
            case 6:
                return now.digests[z].count;
            default:
                return tree.signed[z] ? now.active[z] : NONE;
        }
    }

    private int recordsIn(int z) {
        int lying = 0;
        for (int i = 0; i < now.records.count; i++) {
            if (tree.zoneOf(now.records.names[i]) == z) {
                lying++;
            }
        }
        return lying;
    }

    public int key(int z, int i, int what) {
        if (!tree.has(z) || i < 0 || what < 0 || what > 3) {
            return BAD;
        }
        boolean ofDigests = what == 1 || what == 3;
        KeyRow row = ofDigests ? now.digests[z] : now.out[z];
        if (i >= row.count) {
            return NONE;
        }
        return what < 2 ? row.numbers[i] : row.since[i];
    }

    public int rule(int what) {
        switch (what) {
            case 0:
                return tree.count;
            case 1:
                return now.records.count;
            case 2:
                return now.clock;
            case 3:
                return tree.span;
            case 4:
                return proof.made ? proof.count : NONE;
            case 5:
                return now.cache.count;
            case 6:
                return now.cache.howManyAlive(now.clock);
            case 7:
                return reader.length;
            case 8:
                return (kept[0] ? 1 : 0) + (kept[1] ? 1 : 0);
            default:
                return BAD;
        }
    }

    // ---- answers, proofs

    public int answer(int sort, int what) {
        if (!isSort(sort) || what < 0 || what > 2) {
            return BAD;
        }
        int z = tree.zoneOf(theName);
        if (what == 2) {
            return tree.isSignedDownTo(z) ? 1 : 0;
        }
        owners.gather(z);
        int which = owners.outcome(theName, sort);
        if (what == 0) {
            return which;
        }
        if (which == FOUND) {
            return now.records.valueOf(theName, sort);
        }
        return which == WILD ? now.records.valueOf(owners.starFor(theName), sort) : NONE;
    }

    public int ask(int sort) {
        if (!isSort(sort)) {
            return BAD;
        }
        proof.make(theName, sort);
        return proof.count;
    }

    public int item(int i, int what) {
        if (i < 0 || what < 0 || what > 10) {
            return BAD;
        }
        int refusal = proof.refusalOf(i);
        return refusal != 0 ? refusal : proof.items[i].detail(what);
    }

    public int lose(int i) {
        if (i < 0) {
            return BAD;
        }
        int refusal = proof.refusalOf(i);
        if (refusal != 0) {
            return refusal;
        }
        proof.dropItem(i);
        return proof.count;
    }

    public int alter(int i, int what, int v) {
        if (i < 0 || !mayBecome(what, v)) {
            return BAD;
        }
        int refusal = proof.refusalOf(i);
        return refusal != 0 ? refusal : proof.items[i].become(what, v);
    }

    private static boolean mayBecome(int what, int v) {
        switch (what) {
            case 4:
                return v >= 0 && v <= 63;
            case 5:
            case 6:
            case 7:
                return v >= 0 && v <= MOST_KEY;
            case 8:
                return isKey(v);
            case 9:
                return v >= 0 && v < MODULUS;
            default:
                return false;
        }
    }

    public int rename(int i, int what) {
        if (i < 0 || what < 0 || what > 1) {
            return BAD;
        }
        int refusal = proof.refusalOf(i);
        if (refusal != 0) {
            return refusal;
        }
        Item it = proof.items[i];
        if (what == 1 && it.kind != LINK) {
            return NONE;
        }
        long had = what == 0 ? it.owner : it.next;
        if (what == 0) {
            it.owner = theName;
        } else {
            it.next = theName;
        }
        return Names.count(had);
    }

    public int sign(int i) {
        if (i < 0) {
            return BAD;
        }
        int refusal = proof.refusalOf(i);
        if (refusal != 0) {
            return refusal;
        }
        proof.items[i].seal();
        return proof.items[i].mark;
    }

    public int check() {
        return proof.made ? validator.judge() : STATE;
    }

    public int checked(int what) {
        if (what < 0 || what > 2) {
            return BAD;
        }
        if (!validator.ran) {
            return STATE;
        }
        switch (what) {
            case 0:
                return validator.value;
            case 1:
                return validator.endZone;
            default:
                return validator.came;
        }
    }

    public int entry(int i, int what) {
        if (i < 0 || what < 0 || what > 6) {
            return BAD;
        }
        if (i >= now.cache.count) {
            return NONE;
        }
        return now.cache.detail(i, what, now.clock);
    }

    // ---- the clock, keys

    public int tick(int n) {
        if (n < 1 || n > MOST_TICK) {
            return BAD;
        }
        if ((long) now.clock + n > MOST_CLOCK) {
            return FULL;
        }
        now.clock += n;
        return now.clock;
    }

    public int publish(int z, int k) {
        if (!tree.has(z) || !isKey(k)) {
            return BAD;
        }
        KeyRow out = now.out[z];
        if (!tree.signed[z] || out.has(k)) {
            return STATE;
        }
        if (out.count >= MOST_OUT) {
            return FULL;
        }
        out.insert(k, now.clock);
        return out.count;
    }

    public int retire(int z, int k) {
        if (!tree.has(z) || !isKey(k)) {
            return BAD;
        }
        KeyRow out = now.out[z];
        if (!tree.signed[z] || !out.has(k) || now.active[z] == k) {
            return STATE;
        }
        out.takeOut(k);
        return out.count;
    }

    public int digest(int z, int k) {
        if (!tree.has(z) || !isKey(k)) {
            return BAD;
        }
        KeyRow told = now.digests[z];
        if (!tree.signed[z] || told.has(k)) {
            return STATE;
        }
        if (told.count >= MOST_DIGESTS) {
            return FULL;
        }
        told.insert(k, now.clock);
        return told.count;
    }

    public int undigest(int z, int k) {
        if (!tree.has(z) || !isKey(k)) {
            return BAD;
        }
        KeyRow told = now.digests[z];
        boolean lastTrust = z == 0 && told.count == 1;
        if (!tree.signed[z] || !told.has(k) || lastTrust) {
            return STATE;
        }
        told.takeOut(k);
        return told.count;
    }

    public int why(int z, int k) {
        if (!tree.has(z) || !isKey(k)) {
            return BAD;
        }
        return tree.signed[z] ? obstacle(z, k) : STATE;
    }

    public int activate(int z, int k) {
        if (!tree.has(z) || !isKey(k)) {
            return BAD;
        }
        if (!tree.signed[z] || now.active[z] == k || !now.out[z].has(k)) {
            return STATE;
        }
        int was = now.active[z];
        now.active[z] = k;
        return was;
    }

    private int obstacle(int z, int k) {
        KeyRow out = now.out[z];
        KeyRow told = now.digests[z];
        if (now.active[z] == k) {
            return 1;
        }
        if (!out.has(k)) {
            return 2;
        }
        if (out.ageOf(k, now.clock) < tree.span) {
            return 3;
        }
        if (!told.has(k)) {
            return 4;
        }
        // TRUST lies at the validator itself: no cache holds an older state of it.
        return z != 0 && told.ageOf(k, now.clock) < tree.span ? 5 : 0;
    }

    // ---- records, images

    public int put(int sort, int v) {
        if (!isSort(sort) || v < 0 || v > MOST_VALUE) {
            return BAD;
        }
        int had = now.records.valueOf(theName, sort);
        if (had == NONE && now.records.count >= MOST_RECORDS) {
            return FULL;
        }
        now.records.write(theName, sort, v);
        return had;
    }

    public int remove(int sort) {
        if (!isSort(sort)) {
            return BAD;
        }
        int had = now.records.valueOf(theName, sort);
        now.records.erase(theName, sort);
        return had;
    }

    public int keep(int k) {
        if (k < 0 || k >= IMAGE_COUNT) {
            return BAD;
        }
        boolean was = kept[k];
        images[k].copyFrom(now);
        kept[k] = true;
        return was ? 1 : 0;
    }

    public int back(int k) {
        if (k < 0 || k >= IMAGE_COUNT) {
            return BAD;
        }
        if (!kept[k]) {
            return STATE;
        }
        now.copyFrom(images[k]);
        proof.made = false;
        validator.ran = false;
        return now.records.count;
    }

    private static boolean isSort(int sort) {
        return sort >= 0 && sort < SORT_COUNT;
    }

    private static boolean isKey(int k) {
        return k >= 1 && k <= MOST_KEY;
    }

    private static boolean holds(int[] numbers, int wanted) {
        for (int i = 0; i < numbers.length; i++) {
            if (numbers[i] == wanted) {
                return true;
            }
        }
        return false;
    }

    /**
     * A NAME is one number, a LABEL in 15 bits each, LABEL 0 highest, no LABEL 0 and the STAR 1:
     * so the ORDER of NAMES is that of the numbers.
     */
    private static final class Names {
        static final long ROOT = 0L;
        static final int STAR = 1;
        static final int STAR_LETTER = 27;
        static final int LABEL_BITS = 15;
        static final int LETTER_BITS = 5;

        static int labelAt(long name, int i) {
            if (i < 0 || i >= MOST_LABELS) {
                return 0;
            }
            int shift = LABEL_BITS * (MOST_LABELS - 1 - i);
            return (int) ((name >> shift) & ((1 << LABEL_BITS) - 1));
        }

        static int count(long name) {
            int labels = 0;
            while (labels < MOST_LABELS && labelAt(name, labels) != 0) {
                labels++;
            }
            return labels;
        }

        static long first(long name, int labels) {
            if (labels <= 0) {
                return ROOT;
            }
            if (labels >= MOST_LABELS) {
                return name;
            }
            int shift = LABEL_BITS * (MOST_LABELS - labels);
            return (name >> shift) << shift;
        }

        static long longer(long name, int label) {
            int labels = count(name);
            if (labels >= MOST_LABELS) {
                return name;
            }
            return name | ((long) label << (LABEL_BITS * (MOST_LABELS - 1 - labels)));
        }

        static boolean isAbove(long high, long low) {
            return high != low && first(low, count(high)) == high;
        }

        /** 0 where the letters are not as told. */
        static int labelOf(int a, int b, int c) {
            if (a == STAR_LETTER) {
                return b == 0 && c == 0 ? STAR : 0;
            }
            boolean noGap = b != 0 || c == 0;
            if (!isLetter(a) || !noGap || (b != 0 && !isLetter(b)) || (c != 0 && !isLetter(c))) {
                return 0;
            }
            return (a << (2 * LETTER_BITS)) | (b << LETTER_BITS) | c;
        }

        static boolean isLetter(int a) {
            return a >= 1 && a <= 26;
        }

        static int letterAt(int label, int k) {
            if (k < 0 || k >= MOST_LETTERS) {
                return 0;
            }
            if (label == STAR) {
                return k == 0 ? STAR_LETTER : 0;
            }
            return (label >> (LETTER_BITS * (MOST_LETTERS - 1 - k))) & ((1 << LETTER_BITS) - 1);
        }
    }

    /** The ZONES and SPAN: what a text alone can change. */
    private static final class Tree {
        static final int USUAL_SPAN = 10;

        final long[] apexes = new long[MOST_ZONES];
        final int[] labels = new int[MOST_ZONES];
        final boolean[] signed = new boolean[MOST_ZONES];
        final int[] parents = new int[MOST_ZONES];
        int count;
        int span;

        Tree() {
            startOver();
        }

        void startOver() {
            count = 1;
            span = USUAL_SPAN;
            apexes[0] = Names.ROOT;
            labels[0] = 0;
            signed[0] = true;
            parents[0] = NONE;
        }

        boolean has(int z) {
            return z >= 0 && z < count;
        }

        boolean isApex(long name) {
            for (int z = 0; z < count; z++) {
                if (apexes[z] == name) {
                    return true;
                }
            }
            return false;
        }

        void grow(long apex, boolean isSigned) {
            if (count >= MOST_ZONES) {
                return;
            }
            apexes[count] = apex;
            labels[count] = Names.count(apex);
            signed[count] = isSigned;
            count++;
        }

        /** Once all are told: a ZONE told later may lie between two others. */
        void findParents() {
            for (int z = 1; z < count; z++) {
                parents[z] = zoneOf(Names.first(apexes[z], labels[z] - 1));
            }
        }

        int zoneOf(long name) {
            int deepest = 0;
            for (int z = 1; z < count; z++) {
                if (labels[z] > labels[deepest] && Names.first(name, labels[z]) == apexes[z]) {
                    deepest = z;
                }
            }
            return deepest;
        }

        /** The next ZONE below z on the way to the target. */
        int stepDown(int z, int target) {
            int lower = target;
            for (int step = 0; step < MOST_ZONES && has(lower) && parents[lower] != z; step++) {
                lower = parents[lower];
            }
            return has(lower) ? lower : 0;
        }

        boolean isSignedDownTo(int target) {
            int z = target;
            for (int step = 0; step < MOST_ZONES && has(z); step++) {
                if (!signed[z]) {
                    return false;
                }
                z = parents[z];
            }
            return true;
        }

        void copyFrom(Tree other) {
            count = other.count;
            span = other.span;
            for (int z = 0; z < MOST_ZONES; z++) {
                apexes[z] = other.apexes[z];
                labels[z] = other.labels[z];
                signed[z] = other.signed[z];
                parents[z] = other.parents[z];
            }
        }
    }

    private static final class Records {
        final long[] names = new long[MOST_RECORDS];
        final int[] sorts = new int[MOST_RECORDS];
        final int[] values = new int[MOST_RECORDS];
        int count;

        int indexOf(long name, int sort) {
            for (int i = 0; i < count; i++) {
                if (names[i] == name && sorts[i] == sort) {
                    return i;
                }
            }
            return NONE;
        }

        int valueOf(long name, int sort) {
            int i = indexOf(name, sort);
            return i < 0 ? NONE : values[i];
        }

        void write(long name, int sort, int value) {
            int i = indexOf(name, sort);
            if (i >= 0) {
                values[i] = value;
            } else if (count < MOST_RECORDS) {
                names[count] = name;
                sorts[count] = sort;
                values[count] = value;
                count++;
            }
        }

        /** The last one takes its place: no answer depends on the order of RECORDS. */
        void erase(long name, int sort) {
            int i = indexOf(name, sort);
            if (i < 0) {
                return;
            }
            count--;
            names[i] = names[count];
            sorts[i] = sorts[count];
            values[i] = values[count];
        }

        void copyFrom(Records other) {
            count = other.count;
            for (int i = 0; i < count; i++) {
                names[i] = other.names[i];
                sorts[i] = other.sorts[i];
                values[i] = other.values[i];
            }
        }
    }

    /** KEYS by number, 0 behind them (no KEY is 0), so that ITEMS can take the row as it is. */
    private static final class KeyRow {
        final int[] numbers = new int[NUMBERS];
        final int[] since = new int[NUMBERS];
        int count;

        void empty() {
            count = 0;
            for (int i = 0; i < NUMBERS; i++) {
                numbers[i] = 0;
                since[i] = 0;
            }
        }

        int indexOf(int k) {
            for (int i = 0; i < count; i++) {
                if (numbers[i] == k) {
                    return i;
                }
            }
            return NONE;
        }

        boolean has(int k) {
            return indexOf(k) >= 0;
        }

        int ageOf(int k, int clock) {
            int i = indexOf(k);
            return i < 0 ? 0 : clock - since[i];
        }

        void insert(int k, int clock) {
            if (count >= NUMBERS) {
                return;
            }
            int i = count;
            for (; i > 0 && numbers[i - 1] > k; i--) {
                numbers[i] = numbers[i - 1];
                since[i] = since[i - 1];
            }
            numbers[i] = k;
            since[i] = clock;
            count++;
        }

        void takeOut(int k) {
            int at = indexOf(k);
            if (at < 0) {
                return;
            }
            count--;
            for (int i = at; i < count; i++) {
                numbers[i] = numbers[i + 1];
                since[i] = since[i + 1];
            }
            numbers[count] = 0;
            since[count] = 0;
        }

        void copyFrom(KeyRow other) {
            count = other.count;
            for (int i = 0; i < NUMBERS; i++) {
                numbers[i] = other.numbers[i];
                since[i] = other.since[i];
            }
        }
    }

    private static final class Cache {
        final int[] zones = new int[MOST_ENTRIES];
        final int[] kinds = new int[MOST_ENTRIES];
        // SPAN behind the last CLOCK there can be is no int any more.
        final long[] ends = new long[MOST_ENTRIES];
        final int[][] keys = new int[MOST_ENTRIES][NUMBERS];
        int count;

        boolean isAlive(int i, int clock) {
            return i >= 0 && i < count && clock < ends[i];
        }

        int howManyAlive(int clock) {
            int alive = 0;
            for (int i = 0; i < count; i++) {
                if (isAlive(i, clock)) {
                    alive++;
                }
            }
            return alive;
        }

        int indexOf(int z, int kind) {
            for (int i = 0; i < count; i++) {
                if (zones[i] == z && kinds[i] == kind) {
                    return i;
                }
            }
            return NONE;
        }

        /** Whether there is an ALIVE one: the row holds its KEYS then. */
        boolean recall(int z, int kind, int clock, int[] row) {
            int i = indexOf(z, kind);
            if (!isAlive(i, clock)) {
                return false;
            }
            System.arraycopy(keys[i], 0, row, 0, NUMBERS);
            return true;
        }

        void store(int z, int kind, int[] row, long till) {
            takeOut(indexOf(z, kind));
            if (count >= MOST_ENTRIES) {
                takeOut(0);
            }
            zones[count] = z;
            kinds[count] = kind;
            ends[count] = till;
            System.arraycopy(row, 0, keys[count], 0, NUMBERS);
            count++;
        }

        void takeOut(int at) {
            if (at < 0 || at >= count) {
                return;
            }
            count--;
            for (int i = at; i < count; i++) {
                zones[i] = zones[i + 1];
                kinds[i] = kinds[i + 1];
                ends[i] = ends[i + 1];
                System.arraycopy(keys[i + 1], 0, keys[i], 0, NUMBERS);
            }
        }

        int detail(int i, int what, int clock) {
            if (i < 0 || i >= count) {
                return NONE;
            }
            switch (what) {
                case 0:
                    return zones[i];
                case 1:
                    return kinds[i];
                case 2:
                case 3:
                case 4:
                    return keys[i][what - 2];
                case 5:
                    return isAlive(i, clock) ? 1 : 0;
                default:
                    return isAlive(i, clock) ? (int) (ends[i] - clock) : 0;
            }
        }

        void copyFrom(Cache other) {
            count = other.count;
            for (int i = 0; i < count; i++) {
                zones[i] = other.zones[i];
                kinds[i] = other.kinds[i];
                ends[i] = other.ends[i];
                System.arraycopy(other.keys[i], 0, keys[i], 0, NUMBERS);
            }
        }
    }

    /** What an IMAGE holds. TRUST stands as the DIGESTS of ZONE 0. */
    private static final class World {
        final Records records = new Records();
        final KeyRow[] out = new KeyRow[MOST_ZONES];
        final KeyRow[] digests = new KeyRow[MOST_ZONES];
        final int[] active = new int[MOST_ZONES];
        final Cache cache = new Cache();
        int clock;

        World() {
            for (int z = 0; z < MOST_ZONES; z++) {
                out[z] = new KeyRow();
                digests[z] = new KeyRow();
            }
        }

        void startAnew(Tree tree) {
            clock = 0;
            cache.count = 0;
            for (int z = 0; z < MOST_ZONES; z++) {
                out[z].empty();
                digests[z].empty();
                active[z] = 0;
                if (tree.has(z) && tree.signed[z]) {
                    out[z].insert(FIRST_KEY + z, 0);
                    digests[z].insert(FIRST_KEY + z, 0);
                    active[z] = FIRST_KEY + z;
                }
            }
        }

        void copyFrom(World other) {
            clock = other.clock;
            records.copyFrom(other.records);
            cache.copyFrom(other.cache);
            for (int z = 0; z < MOST_ZONES; z++) {
                out[z].copyFrom(other.out[z]);
                digests[z].copyFrom(other.digests[z]);
                active[z] = other.active[z];
            }
        }
    }

    /** The OWNERS of one ZONE by ORDER, as gathered last, and the ANSWER that follows from them. */
    private static final class Owners {
        final long[] names = new long[MOST_OWNERS];
        final int[] sorts = new int[MOST_OWNERS];
        int count;
        private final Tree tree;
        private final World now;

        Owners(Tree tree, World now) {
            this.tree = tree;
            this.now = now;
        }

        void gather(int z) {
            count = 0;
            if (!tree.has(z)) {
                return;
            }
            insert(tree.apexes[z], BIT_APEX);
            for (int i = 0; i < now.records.count; i++) {
                if (tree.zoneOf(now.records.names[i]) == z) {
                    insert(now.records.names[i], 1 << now.records.sorts[i]);
                }
            }
            for (int child = 1; child < tree.count; child++) {
                if (tree.parents[child] == z) {
                    insert(tree.apexes[child], tree.signed[child] ? BIT_CHILD | BIT_SIGNED_CHILD : BIT_CHILD);
                }
            }
        }

        private void insert(long name, int bits) {
            int ahead = howManyAhead(name);
            if (ahead < count && names[ahead] == name) {
                sorts[ahead] |= bits;
                return;
            }
            if (count >= MOST_OWNERS) {
                return;
            }
            for (int i = count; i > ahead; i--) {
                names[i] = names[i - 1];
                sorts[i] = sorts[i - 1];
            }
            names[ahead] = name;
            sorts[ahead] = bits;
            count++;
        }

        int howManyAhead(long name) {
            int ahead = count;
            while (ahead > 0 && names[ahead - 1] >= name) {
                ahead--;
            }
            return ahead;
        }

        int indexOf(long name) {
            int ahead = howManyAhead(name);
            return ahead < count && names[ahead] == name ? ahead : NONE;
        }

        long nextOf(int i) {
            return i + 1 < count ? names[i + 1] : names[0];
        }

        /** For a NAME that is no OWNER: the LINK that COVERS it is that of the last OWNER ahead. */
        int coverOf(long name) {
            return howManyAhead(name) - 1;
        }

        /** For a NAME that lies IN the ZONE: the APEX is met on the way up at the latest. */
        int closestLabels(long name) {
            int labels = Names.count(name);
            while (labels > 0 && !reaches(Names.first(name, labels), labels)) {
                labels--;
            }
            return labels;
        }

        private boolean reaches(long high, int labels) {
            for (int i = 0; i < count; i++) {
                if (Names.first(names[i], labels) == high) {
                    return true;
                }
            }
            return false;
        }

        long starFor(long name) {
            return Names.longer(Names.first(name, closestLabels(name)), Names.STAR);
        }

        int outcome(long name, int sort) {
            int at = indexOf(name);
            if (at >= 0) {
                return hasSort(at, sort) ? FOUND : NO_SORT;
            }
            if (closestLabels(name) == Names.count(name)) {
                return NO_SORT;
            }
            int star = indexOf(starFor(name));
            if (star < 0) {
                return NO_NAME;
            }
            return hasSort(star, sort) ? WILD : WILD_NO_SORT;
        }

        private boolean hasSort(int at, int sort) {
            return (sorts[at] & (1 << sort)) != 0;
        }
    }

    private static final class Item {
        int kind;
        int zone;
        long owner;
        long next;
        int sort;
        final int[] numbers = new int[NUMBERS];
        int signer;
        int mark;

        void start(int itsKind, int itsZone, long itsOwner, int itsSigner) {
            kind = itsKind;
            zone = itsZone;
            owner = itsOwner;
            next = Names.ROOT;
            sort = 0;
            signer = itsSigner;
            mark = 0;
            for (int i = 0; i < NUMBERS; i++) {
                numbers[i] = 0;
            }
        }

        int content() {
            int sum = mix(mix(7, kind), zone);
            sum = mixName(sum, owner);
            sum = mixName(sum, next);
            sum = mix(sum, sort);
            for (int i = 0; i < NUMBERS; i++) {
                sum = mix(sum, numbers[i]);
            }
            return sum;
        }

        private static int mix(int sum, int number) {
            return (sum * 31 + number) % MODULUS;
        }

        private static int mixName(int sum, long name) {
            int labels = Names.count(name);
            int mixed = mix(sum, labels);
            for (int i = 0; i < labels; i++) {
                int label = Names.labelAt(name, i);
                for (int k = 0; k < MOST_LETTERS && Names.letterAt(label, k) != 0; k++) {
                    mixed = mix(mixed, Names.letterAt(label, k));
                }
                mixed = mix(mixed, 0);
            }
            return mixed;
        }

        int rightMark() {
            return (content() * (2 * signer + 1) + signer) % MODULUS;
        }

        void seal() {
            mark = rightMark();
        }

        boolean hasSort(int wanted) {
            return (sort & (1 << wanted)) != 0;
        }

        boolean covers(long name, long apex) {
            return owner < name && (name < next || next == apex);
        }

        int detail(int what) {
            switch (what) {
                case 0:
                    return kind;
                case 1:
                    return zone;
                case 2:
                    return Names.count(owner);
                case 3:
                    return kind == LINK ? Names.count(next) : NONE;
                case 4:
                    return sort;
                case 5:
                case 6:
                case 7:
                    return numbers[what - 5];
                case 8:
                    return signer;
                case 9:
                    return mark;
                default:
                    return content();
            }
        }

        int become(int what, int v) {
            int was = detail(what);
            switch (what) {
                case 4:
                    sort = v;
                    break;
                case 5:
                case 6:
                case 7:
                    numbers[what - 5] = v;
                    break;
                case 8:
                    signer = v;
                    break;
                case 9:
                    mark = v;
                    break;
                default:
                    break;
            }
            return was;
        }
    }

    private static final class Proof {
        final Item[] items = new Item[MOST_ITEMS];
        int count;
        boolean made;
        long name;
        int sort;
        int zone;
        int clock;
        private final Tree tree;
        private final World now;
        private final Owners owners;

        Proof(Tree tree, World now, Owners owners) {
            this.tree = tree;
            this.now = now;
            this.owners = owners;
            for (int i = 0; i < MOST_ITEMS; i++) {
                items[i] = new Item();
            }
        }

        /** STATE, NONE, or 0: there is such an ITEM. */
        int refusalOf(int i) {
            if (!made) {
                return STATE;
            }
            return i >= 0 && i < count ? 0 : NONE;
        }

        void make(long itsName, int itsSort) {
            name = itsName;
            sort = itsSort;
            zone = tree.zoneOf(itsName);
            clock = now.clock;
            made = true;
            count = 0;
            if (addChain()) {
                addAnswer();
            }
            for (int i = 0; i < count; i++) {
                items[i].seal();
            }
        }

        /** Whether it comes down to the ZONE of the NAME by SIGNED ones alone. */
        private boolean addChain() {
            addKeys(0);
            int z = 0;
            for (int step = 0; step < MOST_ZONES && z != zone; step++) {
                int parent = z;
                z = tree.stepDown(parent, zone);
                if (!tree.signed[z]) {
                    owners.gather(parent);
                    addLink(parent, owners.indexOf(tree.apexes[z]));
                    return false;
                }
                addDigests(z, parent);
                addKeys(z);
            }
            return true;
        }

        private void addAnswer() {
            owners.gather(zone);
            long star = owners.starFor(name);
            int cover = owners.coverOf(name);
            switch (owners.outcome(name, sort)) {
                case FOUND:
                    addRecord(name);
                    break;
                case NO_SORT:
                    int own = owners.indexOf(name);
                    addLink(zone, own >= 0 ? own : cover);
                    break;
                case WILD:
                    addRecord(star);
                    addLink(zone, cover);
                    break;
                case WILD_NO_SORT:
                    addLink(zone, owners.indexOf(star));
                    addLink(zone, cover);
                    break;
                default:
                    int starCover = owners.coverOf(star);
                    addLink(zone, cover);
                    if (starCover != cover) {
                        addLink(zone, starCover);
                    }
                    break;
            }
        }

        private Item fresh(int kind, int z, long owner, int signer) {
            int at = count < MOST_ITEMS ? count : MOST_ITEMS - 1;
            items[at].start(kind, z, owner, signer);
            count = at + 1;
            return items[at];
        }

        private void addKeys(int z) {
            Item it = fresh(KEYS, z, tree.apexes[z], now.active[z]);
            System.arraycopy(now.out[z].numbers, 0, it.numbers, 0, NUMBERS);
        }

        private void addDigests(int z, int parent) {
            Item it = fresh(DIGESTS, z, tree.apexes[z], now.active[parent]);
            System.arraycopy(now.digests[z].numbers, 0, it.numbers, 0, NUMBERS);
        }

        private void addRecord(long owner) {
            Item it = fresh(RECORD, zone, owner, now.active[zone]);
            it.sort = sort;
            it.numbers[0] = now.records.valueOf(owner, sort);
        }

        private void addLink(int z, int at) {
            if (at < 0 || at >= owners.count) {
                return;
            }
            Item it = fresh(LINK, z, owners.names[at], now.active[z]);
            it.next = owners.nextOf(at);
            it.sort = owners.sorts[at];
        }

        /** The lost one goes behind the others, to be used again. */
        void dropItem(int at) {
            if (at < 0 || at >= count) {
                return;
            }
            Item lost = items[at];
            count--;
            for (int i = at; i < count; i++) {
                items[i] = items[i + 1];
            }
            items[count] = lost;
        }
    }

    private static final class Validator {
        private static final int GOING_ON = 100;

        boolean ran;
        int value;
        int endZone;
        int came;
        private final Tree tree;
        private final World now;
        private final Proof proof;
        private final int[] knownDigests = new int[NUMBERS];
        private final int[] knownKeys = new int[NUMBERS];
        // Whether the MARK of an ITEM is that by its own KEY; found once for each CHECK.
        private final boolean[] genuine = new boolean[MOST_ITEMS];

        Validator(Tree tree, World now, Proof proof) {
            this.tree = tree;
            this.now = now;
            this.proof = proof;
        }

        int judge() {
            ran = true;
            value = NONE;
            came = 0;
            for (int i = 0; i < proof.count; i++) {
                genuine[i] = proof.items[i].mark == proof.items[i].rightMark();
            }
            endZone = 0;
            int outcome = learn(endZone);
            for (int step = 0; step < MOST_ZONES && outcome == GOING_ON && endZone != proof.zone; step++) {
                endZone = tree.stepDown(endZone, proof.zone);
                outcome = learn(endZone);
            }
            return outcome == GOING_ON ? conclude() : outcome;
        }

        private static int broken(int by) {
            return BROKEN_BASE - by;
        }

        /** Puts the KNOWN KEYS of z in the place of those of its PARENT. */
        private int learn(int z) {
            if (now.cache.recall(z, KEYS, now.clock, knownKeys)) {
                return GOING_ON;
            }
            int outcome = learnDigests(z);
            return outcome == GOING_ON ? learnKeys(z) : outcome;
        }

        private int learnDigests(int z) {
            if (z == 0) {
                System.arraycopy(now.digests[0].numbers, 0, knownDigests, 0, NUMBERS);
                return GOING_ON;
            }
            if (now.cache.recall(z, DIGESTS, now.clock, knownDigests)) {
                return GOING_ON;
            }
            for (int i = 0; i < proof.count; i++) {
                if (isOf(i, DIGESTS, z) && isRight(i, knownKeys)) {
                    takeNumbers(i, knownDigests);
                    return GOING_ON;
                }
            }
            return !tree.signed[z] && isShownPlain(z) ? INSECURE : broken(1);
        }

        private boolean isShownPlain(int z) {
            for (int i = 0; i < proof.count; i++) {
                Item it = proof.items[i];
                boolean fits = isOf(i, LINK, tree.parents[z]) && it.owner == tree.apexes[z];
                boolean plain = (it.sort & BIT_CHILD) != 0 && (it.sort & BIT_SIGNED_CHILD) == 0;
                if (fits && plain && isRight(i, knownKeys)) {
                    return true;
                }
            }
            return false;
        }

        private int learnKeys(int z) {
            for (int i = 0; i < proof.count; i++) {
                Item it = proof.items[i];
                if (isOf(i, KEYS, z) && isRight(i, it.numbers) && holds(knownDigests, it.signer)) {
                    takeNumbers(i, knownKeys);
                    return GOING_ON;
                }
            }
            return broken(2);
        }

        private boolean isOf(int i, int kind, int z) {
            return proof.items[i].kind == kind && proof.items[i].zone == z;
        }

        private boolean isRight(int i, int[] keys) {
            return genuine[i] && holds(keys, proof.items[i].signer);
        }

        /** The numbers above 0 of an ITEM become KNOWN, and an ENTRY. */
        private void takeNumbers(int i, int[] row) {
            Item it = proof.items[i];
            int taken = 0;
            for (int n = 0; n < NUMBERS; n++) {
                if (it.numbers[n] > 0) {
                    row[taken] = it.numbers[n];
                    taken++;
                }
            }
            for (int n = taken; n < NUMBERS; n++) {
                row[n] = 0;
            }
            now.cache.store(it.zone, it.kind, row, (long) proof.clock + tree.span);
            came++;
        }

        private int conclude() {
            if (findRecord(proof.name)) {
                return FOUND;
            }
            if (findLinkWithout(proof.name) || findLinkTo(proof.name)) {
                return NO_SORT;
            }
            int gap = findCover(proof.name);
            if (gap < 0) {
                return broken(3);
            }
            long star = starBy(proof.items[gap]);
            if (findRecord(star)) {
                return WILD;
            }
            if (findLinkWithout(star)) {
                return WILD_NO_SORT;
            }
            return findCover(star) >= 0 ? NO_NAME : broken(4);
        }

        private boolean isUsable(int i, int kind) {
            return isOf(i, kind, proof.zone) && isRight(i, knownKeys);
        }

        private boolean findRecord(long owner) {
            for (int i = 0; i < proof.count; i++) {
                Item it = proof.items[i];
                if (it.owner == owner && it.sort == proof.sort && isUsable(i, RECORD)) {
                    value = it.numbers[0];
                    return true;
                }
            }
            return false;
        }

        private boolean findLinkWithout(long owner) {
            for (int i = 0; i < proof.count; i++) {
                Item it = proof.items[i];
                if (it.owner == owner && !it.hasSort(proof.sort) && isUsable(i, LINK)) {
                    return true;
                }
            }
            return false;
        }

        /** A NAME between an OWNER and a NEXT that it is ABOVE has no RECORD of its own. */
        private boolean findLinkTo(long name) {
            for (int i = 0; i < proof.count; i++) {
                Item it = proof.items[i];
                boolean covers = it.covers(name, tree.apexes[proof.zone]);
                if (covers && Names.isAbove(name, it.next) && isUsable(i, LINK)) {
                    return true;
                }
            }
            return false;
        }

        private int findCover(long name) {
            for (int i = 0; i < proof.count; i++) {
                if (proof.items[i].covers(name, tree.apexes[proof.zone]) && isUsable(i, LINK)) {
                    return i;
                }
            }
            return NONE;
        }

        private long starBy(Item gap) {
            int labels = Names.count(proof.name) - 1;
            while (labels > 0 && !isReached(Names.first(proof.name, labels), labels, gap)) {
                labels--;
            }
            return Names.longer(Names.first(proof.name, labels), Names.STAR);
        }

        private static boolean isReached(long high, int labels, Item gap) {
            return Names.first(gap.owner, labels) == high || Names.first(gap.next, labels) == high;
        }
    }

    /** THE TAPE, and what is read from it, apart from what stands until it is taken. */
    private static final class Reader {
        static final int END = 0, WORD = 1, NUMBER = 2, DOT = 3, ASTERISK = 4, SEMICOLON = 5;
        static final int NO_TOKEN = 1, OUT_OF_PLACE = 2, OUT_OF_BOUNDS = 3, TOO_MANY = 4, TOLD_BEFORE = 5;
        static final int MOST_FIGURES = 2;
        static final int MOST_SPAN = 60;

        final byte[] tape = new byte[TAPE_BYTES];
        int length;
        final Tree tree = new Tree();
        final Records records = new Records();
        int faultNumber;
        int faultPlace;
        private int at;
        private int kind;
        private int start;
        private boolean spanTold;
        private long nameRead;

        /** How many lines; of no meaning where there is a FAULT. */
        int readTape() {
            tree.startOver();
            records.count = 0;
            faultNumber = 0;
            faultPlace = 0;
            spanTold = false;
            at = 0;
            int lines = 0;
            while (lines < TAPE_BYTES && advance() && kind != END && readLine()) {
                lines++;
            }
            tree.findParents();
            return lines;
        }

        private boolean fail(int number, int place) {
            faultNumber = number;
            faultPlace = place;
            return false;
        }

        private boolean advance() {
            while (at < length && tape[at] == ' ') {
                at++;
            }
            start = at;
            if (at >= length) {
                kind = END;
                return true;
            }
            int c = tape[at];
            if (isBetween(c, 'a', 'z')) {
                kind = WORD;
                skip('a', 'z');
            } else if (isBetween(c, '0', '9')) {
                kind = NUMBER;
                skip('0', '9');
                return at - start <= MOST_FIGURES || fail(NO_TOKEN, start);
            } else {
                kind = c == '.' ? DOT : c == '*' ? ASTERISK : c == ';' ? SEMICOLON : END;
                at++;
                return kind != END || fail(NO_TOKEN, start);
            }
            return true;
        }

        private static boolean isBetween(int c, int low, int high) {
            return c >= low && c <= high;
        }

        private void skip(int low, int high) {
            while (at < length && isBetween(tape[at], low, high)) {
                at++;
            }
        }

        /** The next TOKEN has to be of that kind. */
        private boolean advanceTo(int wanted) {
            return advance() && (kind == wanted || fail(OUT_OF_PLACE, start));
        }

        private boolean isWord(String word) {
            if (kind != WORD || at - start != word.length()) {
                return false;
            }
            for (int i = 0; i < word.length(); i++) {
                if (tape[start + i] != word.charAt(i)) {
                    return false;
                }
            }
            return true;
        }

        private boolean readLine() {
            if (isWord("zone")) {
                return readZone(true);
            }
            if (isWord("plain")) {
                return readZone(false);
            }
            if (isWord("rec")) {
                return readRecord();
            }
            return isWord("span") ? readSpan() : fail(OUT_OF_PLACE, start);
        }

        private boolean readZone(boolean isSigned) {
            if (tree.count >= MOST_ZONES) {
                return fail(TOO_MANY, start);
            }
            if (!readName()) {
                return false;
            }
            if (kind != SEMICOLON) {
                return fail(OUT_OF_PLACE, start);
            }
            if (tree.isApex(nameRead)) {
                return fail(TOLD_BEFORE, start);
            }
            tree.grow(nameRead, isSigned);
            return true;
        }

        private boolean readRecord() {
            if (records.count >= MOST_RECORDS) {
                return fail(TOO_MANY, start);
            }
            if (!readName()) {
                return false;
            }
            int sort = isWord("a") ? 0 : isWord("t") ? 1 : isWord("m") ? 2 : NONE;
            if (sort < 0) {
                return fail(OUT_OF_PLACE, start);
            }
            if (!advanceTo(NUMBER)) {
                return false;
            }
            int value = number();
            if (!advanceTo(SEMICOLON)) {
                return false;
            }
            if (records.indexOf(nameRead, sort) >= 0) {
                return fail(TOLD_BEFORE, start);
            }
            records.write(nameRead, sort, value);
            return true;
        }

        private boolean readSpan() {
            if (spanTold) {
                return fail(TOO_MANY, start);
            }
            spanTold = true;
            if (!advanceTo(NUMBER)) {
                return false;
            }
            tree.span = number();
            if (tree.span < 1 || tree.span > MOST_SPAN) {
                return fail(OUT_OF_BOUNDS, start);
            }
            return advanceTo(SEMICOLON);
        }

        private int number() {
            int sum = 0;
            for (int i = start; i < at && i < length; i++) {
                sum = sum * 10 + tape[i] - '0';
            }
            return sum;
        }

        /** Reads the TOKEN behind the NAME, too: only that tells where a NAME ends. */
        private boolean readName() {
            nameRead = Names.ROOT;
            if (!advance()) {
                return false;
            }
            if (kind == DOT) {
                return advance();
            }
            for (int labels = 0; labels <= MOST_LABELS; labels++) {
                if (kind != WORD && kind != ASTERISK) {
                    return fail(OUT_OF_PLACE, start);
                }
                if (labels == MOST_LABELS || at - start > MOST_LETTERS) {
                    return fail(OUT_OF_BOUNDS, start);
                }
                nameRead = ahead(kind == ASTERISK ? Names.STAR : labelRead(), nameRead);
                if (!advance()) {
                    return false;
                }
                if (kind != DOT) {
                    return true;
                }
                if (!advance()) {
                    return false;
                }
            }
            return false;
        }

        /** A LABEL that is written later lies nearer the ROOT. */
        private static long ahead(int label, long name) {
            return ((long) label << (Names.LABEL_BITS * (MOST_LABELS - 1))) | (name >> Names.LABEL_BITS);
        }

        private int labelRead() {
            return Names.labelOf(letterRead(0), letterRead(1), letterRead(2));
        }

        private int letterRead(int k) {
            int place = start + k;
            return place < at && place < length ? tape[place] - 'a' + 1 : 0;
        }
    }
}
