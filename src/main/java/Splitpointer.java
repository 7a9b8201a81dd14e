/**
 * A file of records that grows one bucket at a time, and shrinks. The words in capitals are those
 * of the document.
 */
public final class Splitpointer {
    private static final int NONE = -1;
    private static final int MARK_AHEAD = -2;
    private static final int MAX_RECORDS = 60;
    private static final int MAX_LOG = 60;
    private static final int KEYS = 10000;
    private static final int FIELD_VALUES = 100;
    private static final int HASH_BITS = 10;
    private static final int HASHES = 1024;
    private static final int SEED_FACTOR = 397;
    private static final int MAX_SEED = 9;
    private static final int FIRST_CHOICE = 682;
    private static final int PAGES = 96;
    private static final int MIN_CAP = 2;
    private static final int MAX_CAP = 4;
    private static final int MAX_GROUP = 8;
    private static final int FIRST_LOWER = 40;
    private static final int MAX_LOWER = 40;
    private static final int FIRST_UPPER = 80;
    private static final int MIN_UPPER = 50;
    private static final int MAX_UPPER = 100;
    private static final int FIRST_BUCKETS = 2;
    // 60 RECORDS by CAP 2 and UPPER 50 make 59 BUCKETS, and never more.
    private static final int MAX_BUCKETS = 64;
    private static final int CURSORS = 3;
    private static final int CLIENTS = 3;
    private static final int UNKNOWN_BUCKET = 3;
    private static final int FILE_NUMBERS = 22;
    private static final int BUCKET_NUMBERS = 6;
    private static final int KEY_NUMBERS = 6;
    private static final int PAGE_NUMBERS = 3;
    private static final int CLIENT_NUMBERS = 3;
    private static final int WOULD_NUMBERS = 4;
    private static final long DIGEST_START = 7307;
    private static final long DIGEST_FACTOR = 31;

    private final TableFile file = new TableFile();
    // The file as a CRASH would leave it. All ACTS are FLUSHED at once, and an ACT done again on
    // the same file has the same outcome: so this is the file as it was when it was last FLUSHED.
    private final TableFile safe = new TableFile();
    private final TableFile trial = new TableFile();
    private final Shape firstImage = new Shape();
    private final Shape secondImage = new Shape();
    private final Shape thirdImage = new Shape();
    private final Row marks = new Row(CURSORS);
    private final Row orders = new Row(MAX_RECORDS);
    private int group;
    private int acts;
    private int unflushed;
    private int reads;
    private int falseOnes;
    private int forwards;
    private int crashes;
    private int refused;

    public Splitpointer() {
        startAnew(MIN_CAP, 1);
    }

    public int found(int cap, int group) throws IllegalArgumentException {
        requireArgument(isWithin(cap, MIN_CAP, MAX_CAP) && isWithin(group, 1, MAX_GROUP));
        int gone = file.records;
        startAnew(cap, group);
        return gone;
    }

    public int bounds(int lower, int upper) throws IllegalArgumentException {
        requireArgument(isWithin(lower, 0, MAX_LOWER) && isWithin(upper, MIN_UPPER, MAX_UPPER));
        makeRoomInLog();
        file.lower = lower;
        file.upper = upper;
        logAct();
        return file.load();
    }

    public int put(int key, int value) throws IllegalArgumentException, IllegalStateException {
        requireArgument(isKey(key) && isWithin(value, 0, KEYS - 1));
        int before = file.valueOf(key);
        requireState(before != NONE || file.records < MAX_RECORDS);
        makeRoomInLog();
        if (before != NONE) {
            file.change(key, value);
        } else {
            file.enter(key, value);
        }
        logAct();
        return before;
    }

    public int drop(int key) throws IllegalArgumentException {
        requireArgument(isKey(key));
        int value = file.valueOf(key);
        if (value == NONE) {
            return NONE;
        }
        makeRoomInLog();
        file.remove(key);
        logAct();
        return value;
    }

    public int rehash(int choice, int seed) throws IllegalArgumentException {
        requireArgument(isHashing(choice, seed));
        makeRoomInLog();
        file.refill(choice, seed);
        closeCursors();
        logAct();
        return file.pages.usedCount();
    }

    public int find(int key) throws IllegalArgumentException {
        requireArgument(isKey(key));
        if (!file.passesFilter(key)) {
            return NONE;
        }
        reads += file.pagesRead(key);
        int value = file.valueOf(key);
        if (value == NONE) {
            falseOnes++;
        }
        return value;
    }

    public boolean open(int cursor) throws IndexOutOfBoundsException {
        requireIndex(isWithin(cursor, 0, CURSORS - 1));
        boolean wasClosed = marks.at(cursor) == NONE;
        marks.set(cursor, MARK_AHEAD);
        return wasClosed;
    }

    public int next(int cursor) throws IndexOutOfBoundsException, IllegalStateException {
        requireIndex(isWithin(cursor, 0, CURSORS - 1));
        int mark = marks.at(cursor);
        requireState(mark != NONE);
        int key = file.keyBehind(mark);
        if (key != NONE) {
            marks.set(cursor, key);
        }
        return key;
    }

    public int ask(int client, int key)
            throws IndexOutOfBoundsException, IllegalArgumentException {
        requireIndex(isWithin(client, 0, CLIENTS - 1));
        requireArgument(isKey(key));
        Shape image = imageOf(client);
        int hash = file.hashing.hashOf(key);
        int start = image.addressOf(hash);
        if (!file.shape.hasBucket(start)) {
            image.copyFrom(file.shape);
            return UNKNOWN_BUCKET;
        }
        int hops = file.shape.hopsFrom(start, hash);
        if (hops > 0) {
            image.learn(start, file.shape.depthOf(start));
        }
        forwards += hops;
        return hops;
    }

    public int flush() {
        int count = unflushed;
        flushAll();
        return count;
    }

    public int checkpoint() {
        int count = acts;
        keepWhole();
        return count;
    }

    public int crash() {
        int lost = unflushed;
        file.copyFrom(safe);
        acts -= lost;
        unflushed = 0;
        crashes++;
        closeCursors();
        return lost;
    }

    public int knock() {
        refused++;
        return refused;
    }

    public int get(int key) throws IllegalArgumentException {
        requireArgument(isKey(key));
        return file.valueOf(key);
    }

    public int ofKey(int key, int what) throws IllegalArgumentException {
        requireArgument(isKey(key) && isWithin(what, 0, KEY_NUMBERS - 1));
        return file.keyNumber(key, what);
    }

    public int ofFile(int what) throws IllegalArgumentException {
        requireArgument(isWithin(what, 0, FILE_NUMBERS - 1));
        return fileNumber(what);
    }

    public int ofBucket(int bucket, int what)
            throws IndexOutOfBoundsException, IllegalArgumentException {
        requireIndex(file.shape.hasBucket(bucket));
        requireArgument(isWithin(what, 0, BUCKET_NUMBERS - 1));
        return file.bucketNumber(bucket, what);
    }

    public String chain(int bucket) throws IndexOutOfBoundsException {
        requireIndex(file.shape.hasBucket(bucket));
        return file.chainText(bucket);
    }

    public int ofPage(int page, int what)
            throws IndexOutOfBoundsException, IllegalArgumentException {
        requireIndex(isWithin(page, 0, PAGES - 1));
        requireArgument(isWithin(what, 0, PAGE_NUMBERS - 1));
        switch (what) {
            case 0:
                return file.pages.ownerOf(page);
            case 1:
                return file.pages.sizeOf(page);
            default:
                return file.pages.behind(page);
        }
    }

    public int mark(int cursor) throws IndexOutOfBoundsException {
        requireIndex(isWithin(cursor, 0, CURSORS - 1));
        return marks.at(cursor);
    }

    public int ofClient(int client, int what)
            throws IndexOutOfBoundsException, IllegalArgumentException {
        requireIndex(isWithin(client, 0, CLIENTS - 1));
        requireArgument(isWithin(what, 0, CLIENT_NUMBERS - 1));
        return clientNumber(client, what);
    }

    public int seek(boolean isHigh, int value, int nth) throws IllegalArgumentException {
        requireArgument(isWithin(value, 0, FIELD_VALUES - 1) && nth >= 0);
        int count = gatherOrders(isHigh, value);
        return nth < count ? keyOfOrder(nthOrder(nth, count)) : NONE;
    }

    public int visits(boolean isHigh, int value) throws IllegalArgumentException {
        requireArgument(isWithin(value, 0, FIELD_VALUES - 1));
        return file.visitCount(isHigh, value);
    }

    public int would(int choice, int seed, int what) throws IllegalArgumentException {
        requireArgument(isHashing(choice, seed) && isWithin(what, 0, WOULD_NUMBERS - 1));
        trial.copyFrom(file);
        trial.refill(choice, seed);
        switch (what) {
            case 0:
                return trial.pages.usedCount();
            case 1:
                return trial.longestChain();
            case 2:
                return trial.visitCount(true, 0);
            default:
                return trial.visitCount(false, 0);
        }
    }

    public int crashed(int key) throws IllegalArgumentException {
        requireArgument(key == NONE || isKey(key));
        return key == NONE ? crashGain() : safe.valueOf(key);
    }

    public boolean isSound() {
        return file.isWhole() && unflushed < group;
    }

    public long digest() {
        long sum = DIGEST_START;
        for (int what = 0; what < FILE_NUMBERS; what++) {
            sum = mix(sum, fileNumber(what));
        }
        sum = mixBuckets(sum);
        sum = mixRecords(sum);
        for (int cursor = 0; cursor < CURSORS; cursor++) {
            sum = mix(sum, marks.at(cursor));
        }
        for (int client = 0; client < CLIENTS; client++) {
            for (int what = 0; what < CLIENT_NUMBERS; what++) {
                sum = mix(sum, clientNumber(client, what));
            }
        }
        sum = mix(sum, file.visitCount(true, 0));
        sum = mix(sum, file.visitCount(false, 0));
        sum = mix(sum, crashGain());
        return mix(sum, file.isWhole() && unflushed < group ? 1 : 0);
    }

    private static void requireArgument(boolean isRight) {
        if (!isRight) {
            throw new IllegalArgumentException("an argument is beyond its limits");
        }
    }

    private static void requireIndex(boolean isRight) {
        if (!isRight) {
            throw new IndexOutOfBoundsException("there is none of that number");
        }
    }

    private static void requireState(boolean isRight) {
        if (!isRight) {
            throw new IllegalStateException("that can't be done as it stands");
        }
    }

    private static boolean isWithin(int number, int least, int most) {
        return number >= least && number <= most;
    }

    private static boolean isKey(int key) {
        return isWithin(key, 0, KEYS - 1);
    }

    private static boolean isHashing(int choice, int seed) {
        return isWithin(choice, 0, HASHES - 1) && isWithin(seed, 0, MAX_SEED);
    }

    private static long mix(long sum, int number) {
        return sum * DIGEST_FACTOR + number;
    }

    private static int keyOfOrder(int order) {
        return order % KEYS;
    }

    private void startAnew(int cap, int newGroup) {
        file.makeFirst(cap);
        group = newGroup;
        keepWhole();
        closeCursors();
        firstImage.become(0, 0);
        secondImage.become(0, 0);
        thirdImage.become(0, 0);
    }

    private void closeCursors() {
        marks.fill(NONE);
    }

    private void makeRoomInLog() {
        if (acts >= MAX_LOG) {
            keepWhole();
        }
    }

    private void logAct() {
        acts++;
        unflushed++;
        if (unflushed >= group) {
            flushAll();
        }
    }

    private void flushAll() {
        unflushed = 0;
        safe.copyFrom(file);
    }

    private void keepWhole() {
        flushAll();
        acts = 0;
    }

    private int crashGain() {
        return safe.records - file.records;
    }

    private Shape imageOf(int client) {
        if (client == 0) {
            return firstImage;
        }
        return client == 1 ? secondImage : thirdImage;
    }

    private int clientNumber(int client, int what) {
        Shape image = imageOf(client);
        switch (what) {
            case 0:
                return image.level;
            case 1:
                return image.pointer;
            default:
                return file.shape.buckets() - image.buckets();
        }
    }

    private int fileNumber(int what) {
        switch (what) {
            case 14:
                return reads;
            case 15:
                return falseOnes;
            case 16:
                return forwards;
            case 17:
                return crashes;
            case 18:
                return acts;
            case 19:
                return unflushed;
            case 20:
                return group;
            case 21:
                return refused;
            default:
                return file.number(what);
        }
    }

    private int gatherOrders(boolean isHigh, int value) {
        Bundle all = file.allRecords();
        int count = 0;
        for (int i = 0; i < all.size; i++) {
            int key = all.keyAt(i);
            int field = isHigh ? key / FIELD_VALUES : key % FIELD_VALUES;
            if (field == value) {
                orders.set(count, file.hashing.orderOf(key));
                count++;
            }
        }
        return count;
    }

    private int nthOrder(int nth, int count) {
        int order = NONE;
        for (int i = 0; i <= nth && i < count; i++) {
            order = orders.leastAbove(order, count);
        }
        return order;
    }

    private long mixBuckets(long start) {
        long sum = start;
        int count = file.shape.buckets();
        for (int bucket = 0; bucket < count; bucket++) {
            for (int what = 0; what < BUCKET_NUMBERS; what++) {
                sum = mix(sum, file.bucketNumber(bucket, what));
            }
            sum = mix(sum, file.chainSigns(bucket));
        }
        return sum;
    }

    private long mixRecords(long start) {
        long sum = start;
        Bundle all = file.allRecords();
        for (int i = 0; i < all.size; i++) {
            sum = mix(sum, all.keyAt(i));
            sum = mix(sum, all.valueAt(i));
        }
        return sum;
    }

    /** A row of numbers that looks at each index itself, so that none can fail. */
    private static final class Row {
        private final int[] cells;

        Row(int length) {
            cells = new int[length > 0 ? length : 0];
        }

        int at(int index) {
            return index >= 0 && index < cells.length ? cells[index] : NONE;
        }

        void set(int index, int number) {
            if (index >= 0 && index < cells.length) {
                cells[index] = number;
            }
        }

        void fill(int number) {
            for (int i = 0; i < cells.length; i++) {
                cells[i] = number;
            }
        }

        void copyFrom(Row other) {
            if (other.cells.length == cells.length) {
                System.arraycopy(other.cells, 0, cells, 0, cells.length);
            }
        }

        /** NONE, if of the first ones (count) none is above that number. */
        int leastAbove(int number, int count) {
            int least = NONE;
            for (int i = 0; i < count && i < cells.length; i++) {
                if (cells[i] > number && (least == NONE || cells[i] < least)) {
                    least = cells[i];
                }
            }
            return least;
        }
    }

    /** LEVEL and POINTER: those of the file, or of the IMAGE that a CLIENT has of it. */
    private static final class Shape {
        private int level;
        private int pointer;

        void become(int newLevel, int newPointer) {
            level = newLevel;
            pointer = newPointer;
        }

        void copyFrom(Shape other) {
            become(other.level, other.pointer);
        }

        int base() {
            return 2 << level;
        }

        int buckets() {
            return base() + pointer;
        }

        boolean hasBucket(int bucket) {
            return bucket >= 0 && bucket < buckets();
        }

        int addressOf(int hash) {
            int base = 2 << level;
            int address = hash & (base - 1);
            return address >= pointer ? address : hash & (2 * base - 1);
        }

        int depthOf(int bucket) {
            return bucket < pointer || bucket >= base() ? level + 1 : level;
        }

        void grow() {
            pointer++;
            if (pointer >= base()) {
                become(level + 1, 0);
            }
        }

        void shrink() {
            if (pointer == 0 && level > 0) {
                level--;
                pointer = base();
            }
            if (pointer > 0) {
                pointer--;
            }
        }

        int forwardFrom(int bucket, int hash) {
            int depth = depthOf(bucket);
            int aim = hash & ((2 << depth) - 1);
            if (aim == bucket || depth < 1) {
                return aim;
            }
            // The BUCKET of all digits may not be there yet: the one of a digit less always is.
            int nearer = hash & ((1 << depth) - 1);
            return nearer > bucket && nearer < aim ? nearer : aim;
        }

        int hopsFrom(int start, int hash) {
            int hops = 0;
            int bucket = start;
            int aim = forwardFrom(bucket, hash);
            while (aim != bucket && hops < MAX_BUCKETS) {
                hops++;
                bucket = aim;
                aim = forwardFrom(bucket, hash);
            }
            return hops;
        }

        void learn(int bucket, int depth) {
            become(depth - 1, bucket + 1);
            if (pointer >= base()) {
                become(depth, 0);
            }
        }
    }

    /** CHOICE and SEED, and what they make of a KEY. */
    private static final class Hashing {
        private int choice;
        private int seed;

        void become(int newChoice, int newSeed) {
            choice = newChoice;
            seed = newSeed;
        }

        void copyFrom(Hashing other) {
            become(other.choice, other.seed);
        }

        int hashOf(int key) {
            int high = key / FIELD_VALUES;
            int low = key % FIELD_VALUES;
            int hash = 0;
            for (int bit = 0; bit < HASH_BITS; bit++) {
                if ((choice >> bit & 1) == 1) {
                    hash |= (high & 1) << bit;
                    high >>= 1;
                } else {
                    hash |= (low & 1) << bit;
                    low >>= 1;
                }
            }
            return (hash ^ SEED_FACTOR * seed) & (HASHES - 1);
        }

        int turnedOf(int key) {
            int rest = hashOf(key);
            int turned = 0;
            for (int bit = 0; bit < HASH_BITS; bit++) {
                turned = turned << 1 | rest & 1;
                rest >>= 1;
            }
            return turned;
        }

        /** A number that rises as ORDER does, with the KEY in its lowest digits. */
        int orderOf(int key) {
            return turnedOf(key) * KEYS + key;
        }

        /** Those BITS of a HASH that come from that field. */
        int bitsOf(boolean isHigh) {
            return isHigh ? choice : HASHES - 1 - choice;
        }

        int filterOf(int hash) {
            return 1 << (hash & 15) | 1 << (hash >> 4 & 15);
        }
    }

    /** RECORDS on their way from one place to another. */
    private static final class Bundle {
        private final Row keys = new Row(MAX_RECORDS);
        private final Row values = new Row(MAX_RECORDS);
        private int size;

        void clear() {
            size = 0;
        }

        void add(int key, int value) {
            if (size < MAX_RECORDS) {
                keys.set(size, key);
                values.set(size, value);
                size++;
            }
        }

        int keyAt(int index) {
            return keys.at(index);
        }

        int valueAt(int index) {
            return values.at(index);
        }
    }

    /** The PAGES, each with its row of RECORDS and the PAGE behind it. */
    private static final class Pages {
        private final Row keys = new Row(PAGES * MAX_CAP);
        private final Row values = new Row(PAGES * MAX_CAP);
        private final Row sizes = new Row(PAGES);
        private final Row owners = new Row(PAGES);
        private final Row behinds = new Row(PAGES);

        void copyFrom(Pages other) {
            keys.copyFrom(other.keys);
            values.copyFrom(other.values);
            sizes.copyFrom(other.sizes);
            owners.copyFrom(other.owners);
            behinds.copyFrom(other.behinds);
        }

        void releaseAll() {
            sizes.fill(0);
            owners.fill(NONE);
            behinds.fill(NONE);
        }

        /** That PAGE is FREE, and all behind it. */
        void releaseFrom(int start) {
            int page = start;
            for (int step = 0; step < PAGES && page != NONE; step++) {
                int behind = behinds.at(page);
                sizes.set(page, 0);
                owners.set(page, NONE);
                behinds.set(page, NONE);
                page = behind;
            }
        }

        void empty(int page) {
            sizes.set(page, 0);
            behinds.set(page, NONE);
        }

        /** NONE, if no PAGE is FREE. */
        int take(int bucket) {
            for (int page = 0; page < PAGES; page++) {
                if (owners.at(page) == NONE) {
                    owners.set(page, bucket);
                    return page;
                }
            }
            return NONE;
        }

        void link(int page, int behind) {
            behinds.set(page, behind);
        }

        int ownerOf(int page) {
            return owners.at(page);
        }

        int sizeOf(int page) {
            return sizes.at(page);
        }

        int behind(int page) {
            return behinds.at(page);
        }

        int keyAt(int page, int place) {
            return keys.at(page * MAX_CAP + place);
        }

        int valueAt(int page, int place) {
            return values.at(page * MAX_CAP + place);
        }

        void write(int page, int place, int key, int value) {
            keys.set(page * MAX_CAP + place, key);
            values.set(page * MAX_CAP + place, value);
        }

        void add(int page, int key, int value) {
            int size = sizes.at(page);
            if (size < MAX_CAP) {
                keys.set(page * MAX_CAP + size, key);
                values.set(page * MAX_CAP + size, value);
                sizes.set(page, size + 1);
            }
        }

        void removeLast(int page) {
            int size = sizes.at(page);
            if (size > 0) {
                sizes.set(page, size - 1);
            }
        }

        int placeOf(int page, int key) {
            int size = sizes.at(page);
            for (int place = 0; place < size; place++) {
                if (keys.at(page * MAX_CAP + place) == key) {
                    return place;
                }
            }
            return NONE;
        }

        int usedCount() {
            int count = 0;
            for (int page = 0; page < PAGES; page++) {
                if (owners.at(page) != NONE) {
                    count++;
                }
            }
            return count;
        }
    }

    /** What a CHECKPOINT keeps: RECORDS in their BUCKETS, with all by which they got there. */
    private static final class TableFile {
        private final Hashing hashing = new Hashing();
        private final Shape shape = new Shape();
        private final Pages pages = new Pages();
        private final Row firsts = new Row(MAX_BUCKETS);
        private final Row lasts = new Row(MAX_BUCKETS);
        private final Row filters = new Row(MAX_BUCKETS);
        // Two bundles, for a REHASH makes SPLITS while it still has RECORDS to bring back.
        private final Bundle moved = new Bundle();
        private final Bundle all = new Bundle();
        private int cap;
        private int lower;
        private int upper;
        private int records;
        private int splits;
        private int merges;

        void makeFirst(int newCap) {
            cap = newCap;
            lower = FIRST_LOWER;
            upper = FIRST_UPPER;
            splits = 0;
            merges = 0;
            hashing.become(FIRST_CHOICE, 0);
            makeEmpty();
        }

        void copyFrom(TableFile other) {
            hashing.copyFrom(other.hashing);
            shape.copyFrom(other.shape);
            pages.copyFrom(other.pages);
            firsts.copyFrom(other.firsts);
            lasts.copyFrom(other.lasts);
            filters.copyFrom(other.filters);
            cap = other.cap;
            lower = other.lower;
            upper = other.upper;
            records = other.records;
            splits = other.splits;
            merges = other.merges;
        }

        int load() {
            int room = shape.buckets() * cap;
            return room > 0 ? 100 * records / room : 0;
        }

        int addressOf(int key) {
            return shape.addressOf(hashing.hashOf(key));
        }

        /** The PAGE in which that KEY lies, or NONE. */
        int pageOf(int key) {
            int page = firsts.at(addressOf(key));
            for (int step = 0; step < PAGES && page != NONE; step++) {
                if (pages.placeOf(page, key) != NONE) {
                    return page;
                }
                page = pages.behind(page);
            }
            return NONE;
        }

        int valueOf(int key) {
            int page = pageOf(key);
            return page == NONE ? NONE : pages.valueAt(page, pages.placeOf(page, key));
        }

        void change(int key, int value) {
            int page = pageOf(key);
            if (page != NONE) {
                pages.write(page, pages.placeOf(page, key), key, value);
            }
        }

        void enter(int key, int value) {
            append(addressOf(key), key, value);
            records++;
            for (int made = shape.buckets(); made < MAX_BUCKETS && load() > upper; made++) {
                splitOnce();
            }
        }

        void remove(int key) {
            int page = pageOf(key);
            if (page == NONE) {
                return;
            }
            int bucket = pages.ownerOf(page);
            int last = lasts.at(bucket);
            int lastPlace = pages.sizeOf(last) - 1;
            pages.write(page, pages.placeOf(page, key),
                    pages.keyAt(last, lastPlace), pages.valueAt(last, lastPlace));
            pages.removeLast(last);
            if (lastPlace == 0 && last != firsts.at(bucket)) {
                cutLast(bucket);
            }
            records--;
            for (int left = shape.buckets(); left > FIRST_BUCKETS && load() < lower; left--) {
                mergeOnce();
            }
        }

        void refill(int choice, int seed) {
            allRecords();
            hashing.become(choice, seed);
            makeEmpty();
            int count = all.size;
            for (int i = 0; i < count; i++) {
                enter(all.keyAt(i), all.valueAt(i));
            }
        }

        Bundle allRecords() {
            int count = shape.buckets();
            all.clear();
            for (int bucket = 0; bucket < count; bucket++) {
                collect(bucket, all);
            }
            return all;
        }

        boolean passesFilter(int key) {
            int hash = hashing.hashOf(key);
            int both = hashing.filterOf(hash);
            return (filters.at(shape.addressOf(hash)) & both) == both;
        }

        /** How many PAGES are read for a KEY: up to its own, or all of that CHAIN. */
        int pagesRead(int key) {
            int own = pageOf(key);
            int page = firsts.at(addressOf(key));
            int count = 0;
            for (int step = 0; step < PAGES && page != NONE; step++) {
                count++;
                page = page == own ? NONE : pages.behind(page);
            }
            return count;
        }

        /** The first KEY in ORDER behind a MARK, or NONE. */
        int keyBehind(int mark) {
            int markOrder = mark < 0 ? NONE : hashing.orderOf(mark);
            int least = NONE;
            allRecords();
            for (int i = 0; i < all.size; i++) {
                int order = hashing.orderOf(all.keyAt(i));
                if (order > markOrder && (least == NONE || order < least)) {
                    least = order;
                }
            }
            return least == NONE ? NONE : keyOfOrder(least);
        }

        int visitCount(boolean isHigh, int value) {
            int hash = hashing.hashOf(isHigh ? value * FIELD_VALUES : value);
            int fieldBits = hashing.bitsOf(isHigh);
            int buckets = shape.buckets();
            int count = 0;
            for (int bucket = 0; bucket < buckets; bucket++) {
                int known = fieldBits & ((2 << shape.depthOf(bucket)) - 1);
                if (((bucket ^ hash) & known) == 0) {
                    count++;
                }
            }
            return count;
        }

        int number(int what) {
            switch (what) {
                case 0:
                    return records;
                case 1:
                    return shape.buckets();
                case 2:
                    return shape.level;
                case 3:
                    return shape.pointer;
                case 4:
                    return load();
                case 5:
                    return lower;
                case 6:
                    return upper;
                case 7:
                    return cap;
                case 8:
                    return hashing.choice;
                case 9:
                    return hashing.seed;
                case 10:
                    return pages.usedCount();
                case 11:
                    return longestChain();
                case 12:
                    return splits;
                default:
                    return merges;
            }
        }

        int keyNumber(int key, int what) {
            int page = pageOf(key);
            switch (what) {
                case 0:
                    return hashing.hashOf(key);
                case 1:
                    return hashing.turnedOf(key);
                case 2:
                    return addressOf(key);
                case 3:
                    return passesFilter(key) ? 1 : 0;
                case 4:
                    return page;
                default:
                    return page == NONE ? NONE : pages.placeOf(page, key);
            }
        }

        int bucketNumber(int bucket, int what) {
            switch (what) {
                case 0:
                    return recordCount(bucket);
                case 1:
                    return chainLength(bucket);
                case 2:
                    return filters.at(bucket);
                case 3:
                    return shape.depthOf(bucket);
                case 4:
                    return firsts.at(bucket);
                default:
                    return lasts.at(bucket);
            }
        }

        int longestChain() {
            int buckets = shape.buckets();
            int longest = 0;
            for (int bucket = 0; bucket < buckets; bucket++) {
                int length = chainLength(bucket);
                longest = length > longest ? length : longest;
            }
            return longest;
        }

        String chainText(int bucket) {
            if (recordCount(bucket) == 0) {
                return "-";
            }
            StringBuilder text = new StringBuilder();
            int page = firsts.at(bucket);
            for (int step = 0; step < PAGES && page != NONE; step++) {
                if (step > 0) {
                    text.append('|');
                }
                writeRow(page, text);
                page = pages.behind(page);
            }
            return text.toString();
        }

        /** The length of the text of that CHAIN, without making it: a sign is between two KEYS. */
        int chainSigns(int bucket) {
            moved.clear();
            collect(bucket, moved);
            int signs = moved.size > 0 ? moved.size - 1 : 1;
            for (int i = 0; i < moved.size; i++) {
                signs += digitCount(moved.keyAt(i));
            }
            return signs;
        }

        boolean isWhole() {
            int buckets = shape.buckets();
            int inChains = 0;
            for (int bucket = 0; bucket < buckets; bucket++) {
                if (!isChainSound(bucket)) {
                    return false;
                }
                inChains += chainLength(bucket);
            }
            return inChains == pages.usedCount() && shape.pointer < shape.base();
        }

        private void makeEmpty() {
            records = 0;
            shape.become(0, 0);
            pages.releaseAll();
            for (int bucket = 0; bucket < FIRST_BUCKETS; bucket++) {
                startBucket(bucket);
            }
        }

        private void startBucket(int bucket) {
            int page = pages.take(bucket);
            firsts.set(bucket, page);
            lasts.set(bucket, page);
            filters.set(bucket, 0);
        }

        private void append(int bucket, int key, int value) {
            int page = lasts.at(bucket);
            if (pages.sizeOf(page) >= cap) {
                int taken = pages.take(bucket);
                pages.link(page, taken);
                lasts.set(bucket, taken);
                page = taken;
            }
            pages.add(page, key, value);
            addToFilter(bucket, key);
        }

        private void addToFilter(int bucket, int key) {
            int both = hashing.filterOf(hashing.hashOf(key));
            filters.set(bucket, filters.at(bucket) | both);
        }

        private void splitOnce() {
            int old = shape.pointer;
            moved.clear();
            collect(old, moved);
            emptyToFirst(old);
            startBucket(shape.buckets());
            shape.grow();
            splits++;
            int count = moved.size;
            for (int i = 0; i < count; i++) {
                int key = moved.keyAt(i);
                append(addressOf(key), key, moved.valueAt(i));
            }
        }

        private void mergeOnce() {
            shape.shrink();
            int left = shape.pointer;
            int gone = shape.buckets();
            moved.clear();
            collect(gone, moved);
            pages.releaseFrom(firsts.at(gone));
            merges++;
            int count = moved.size;
            for (int i = 0; i < count; i++) {
                append(left, moved.keyAt(i), moved.valueAt(i));
            }
            renewFilter(left);
        }

        private void renewFilter(int bucket) {
            filters.set(bucket, 0);
            moved.clear();
            collect(bucket, moved);
            int count = moved.size;
            for (int i = 0; i < count; i++) {
                addToFilter(bucket, moved.keyAt(i));
            }
        }

        private void emptyToFirst(int bucket) {
            int first = firsts.at(bucket);
            pages.releaseFrom(pages.behind(first));
            pages.empty(first);
            lasts.set(bucket, first);
            filters.set(bucket, 0);
        }

        private void cutLast(int bucket) {
            int last = lasts.at(bucket);
            int page = firsts.at(bucket);
            for (int step = 0; step < PAGES && pages.behind(page) != last; step++) {
                page = pages.behind(page);
            }
            pages.link(page, NONE);
            pages.releaseFrom(last);
            lasts.set(bucket, page);
        }

        private void collect(int bucket, Bundle bundle) {
            int page = firsts.at(bucket);
            for (int step = 0; step < PAGES && page != NONE; step++) {
                int size = pages.sizeOf(page);
                for (int place = 0; place < size; place++) {
                    bundle.add(pages.keyAt(page, place), pages.valueAt(page, place));
                }
                page = pages.behind(page);
            }
        }

        private int recordCount(int bucket) {
            int count = 0;
            int page = firsts.at(bucket);
            for (int step = 0; step < PAGES && page != NONE; step++) {
                count += pages.sizeOf(page);
                page = pages.behind(page);
            }
            return count;
        }

        private int chainLength(int bucket) {
            int length = 0;
            int page = firsts.at(bucket);
            for (int step = 0; step < PAGES && page != NONE; step++) {
                length++;
                page = pages.behind(page);
            }
            return length;
        }

        private void writeRow(int page, StringBuilder text) {
            int size = pages.sizeOf(page);
            for (int place = 0; place < size; place++) {
                if (place > 0) {
                    text.append(' ');
                }
                text.append(pages.keyAt(page, place));
            }
        }

        private static int digitCount(int key) {
            if (key < 100) {
                return key < 10 ? 1 : 2;
            }
            return key < 1000 ? 3 : 4;
        }

        private boolean isChainSound(int bucket) {
            int page = firsts.at(bucket);
            for (int step = 0; step < PAGES && page != NONE; step++) {
                int size = pages.sizeOf(page);
                boolean isLast = pages.behind(page) == NONE;
                boolean isOwn = pages.ownerOf(page) == bucket;
                boolean isFilled = isLast ? step == 0 || size > 0 : size == cap;
                if (!isOwn || !isFilled || size > cap) {
                    return false;
                }
                for (int place = 0; place < size; place++) {
                    if (!isRecordSound(bucket, page, place)) {
                        return false;
                    }
                }
                page = pages.behind(page);
            }
            return page == NONE;
        }

        private boolean isRecordSound(int bucket, int page, int place) {
            int key = pages.keyAt(page, place);
            return addressOf(key) == bucket && passesFilter(key)
                    && pageOf(key) == page && pages.placeOf(page, key) == place;
        }
    }
}
