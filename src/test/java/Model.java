import java.util.ArrayList;
import java.util.Collections;
import java.util.Comparator;
import java.util.HashMap;
import java.util.List;
import java.util.Map;
import java.util.TreeSet;

/**
 * The document once more, word by word and without any thought of speed: hashes are made digit by
 * digit as texts, and a CRASH does all FLUSHED ACTS again. ModelTest holds Splitpointer against it.
 */
public final class Model {
    static final int NONE = -1;

    static final class Entry {
        final int key;
        int value;

        Entry(int key, int value) {
            this.key = key;
            this.value = value;
        }
    }

    static final class Page {
        final int number;
        final List<Entry> row = new ArrayList<>();

        Page(int number) {
            this.number = number;
        }
    }

    static final class Bucket {
        final List<Page> chain = new ArrayList<>();
        final TreeSet<Integer> filter = new TreeSet<>();

        List<Entry> entries() {
            List<Entry> all = new ArrayList<>();
            for (Page page : chain) {
                all.addAll(page.row);
            }
            return all;
        }

        Page lastPage() {
            return chain.get(chain.size() - 1);
        }
    }

    static final class Disc {
        int cap;
        int lower = 40;
        int upper = 80;
        TreeSet<Integer> choice = new TreeSet<>(List.of(1, 3, 5, 7, 9));
        int seed = 0;
        int level = 0;
        int pointer = 0;
        int splits = 0;
        int merges = 0;
        TreeSet<Integer> free = new TreeSet<>();
        List<Bucket> buckets = new ArrayList<>();
        private final Map<Integer, String> digits = new HashMap<>();

        Disc(int cap) {
            this.cap = cap;
            asAtFirst();
        }

        Disc copy() {
            Disc other = new Disc(cap);
            other.lower = lower;
            other.upper = upper;
            other.choice = new TreeSet<>(choice);
            other.seed = seed;
            other.level = level;
            other.pointer = pointer;
            other.splits = splits;
            other.merges = merges;
            other.free = new TreeSet<>(free);
            other.buckets = new ArrayList<>();
            for (Bucket bucket : buckets) {
                Bucket twin = new Bucket();
                twin.filter.addAll(bucket.filter);
                for (Page page : bucket.chain) {
                    Page leaf = new Page(page.number);
                    for (Entry entry : page.row) {
                        leaf.row.add(new Entry(entry.key, entry.value));
                    }
                    twin.chain.add(leaf);
                }
                other.buckets.add(twin);
            }
            return other;
        }

        void asAtFirst() {
            level = 0;
            pointer = 0;
            free.clear();
            for (int page = 0; page < 96; page++) {
                free.add(page);
            }
            buckets.clear();
            for (int i = 0; i < 2; i++) {
                addBucket();
            }
        }

        void addBucket() {
            Bucket bucket = new Bucket();
            bucket.chain.add(new Page(free.pollFirst()));
            buckets.add(bucket);
        }

        String digitsOfHash(int key) {
            return digits.computeIfAbsent(key, this::newDigits);
        }

        private String newDigits(int key) {
            String high = lowestFirst(key / 100);
            String low = lowestFirst(key % 100);
            String plain = "";
            for (int bit = 0; bit < 10; bit++) {
                if (choice.contains(bit)) {
                    plain += high.charAt(0);
                    high = high.substring(1);
                } else {
                    plain += low.charAt(0);
                    low = low.substring(1);
                }
            }
            int mask = (397 * seed) % 1024;
            String masked = "";
            for (int bit = 0; bit < 10; bit++) {
                boolean one = plain.charAt(bit) == '1' ^ lowestFirst(mask).charAt(bit) == '1';
                masked += one ? "1" : "0";
            }
            return masked;
        }

        static String lowestFirst(int number) {
            String text = new StringBuilder(Integer.toBinaryString(number)).reverse().toString();
            return text + "0000000000";
        }

        int hash(int key) {
            return Integer.parseInt(new StringBuilder(digitsOfHash(key)).reverse().toString(), 2);
        }

        int turned(int key) {
            return Integer.parseInt(digitsOfHash(key), 2);
        }

        int base() {
            return 2 * (int) Math.pow(2, level);
        }

        int address(int hash) {
            return addressBy(level, pointer, hash);
        }

        static int addressBy(int level, int pointer, int hash) {
            int base = 2 * (int) Math.pow(2, level);
            return hash % base >= pointer ? hash % base : hash % (2 * base);
        }

        int depth(int bucket) {
            return bucket < pointer || bucket >= base() ? level + 1 : level;
        }

        List<Entry> all() {
            List<Entry> all = new ArrayList<>();
            for (Bucket bucket : buckets) {
                all.addAll(bucket.entries());
            }
            return all;
        }

        Entry entry(int key) {
            for (Entry entry : all()) {
                if (entry.key == key) {
                    return entry;
                }
            }
            return null;
        }

        int valueOf(int key) {
            Entry entry = entry(key);
            return entry == null ? NONE : entry.value;
        }

        int load() {
            return 100 * all().size() / (buckets.size() * cap);
        }

        void append(Bucket bucket, Entry entry) {
            if (bucket.lastPage().row.size() >= cap) {
                bucket.chain.add(new Page(free.pollFirst()));
            }
            bucket.lastPage().row.add(entry);
            bucket.filter.add(hash(entry.key) % 16);
            bucket.filter.add(hash(entry.key) / 16 % 16);
        }

        boolean passes(Bucket bucket, int key) {
            return bucket.filter.contains(hash(key) % 16)
                    && bucket.filter.contains(hash(key) / 16 % 16);
        }

        Bucket bucketOf(int key) {
            return buckets.get(address(hash(key)));
        }

        void putEntry(int key, int value) {
            Entry entry = entry(key);
            if (entry != null) {
                entry.value = value;
                return;
            }
            append(bucketOf(key), new Entry(key, value));
            while (load() > upper) {
                split();
            }
        }

        void dropEntry(int key) {
            Bucket bucket = bucketOf(key);
            Page last = bucket.lastPage();
            Entry mover = last.row.get(last.row.size() - 1);
            for (Page page : bucket.chain) {
                for (int place = 0; place < page.row.size(); place++) {
                    if (page.row.get(place).key == key) {
                        page.row.set(place, mover);
                    }
                }
            }
            last.row.remove(last.row.size() - 1);
            if (last.row.isEmpty() && bucket.chain.size() > 1) {
                bucket.chain.remove(last);
                free.add(last.number);
            }
            while (load() < lower && buckets.size() > 2) {
                merge();
            }
        }

        void split() {
            Bucket old = buckets.get(pointer);
            List<Entry> taken = old.entries();
            while (old.chain.size() > 1) {
                free.add(old.chain.remove(1).number);
            }
            old.chain.get(0).row.clear();
            old.filter.clear();
            addBucket();
            pointer++;
            if (pointer == base()) {
                level++;
                pointer = 0;
            }
            for (Entry entry : taken) {
                append(bucketOf(entry.key), entry);
            }
            splits++;
        }

        void merge() {
            if (pointer == 0) {
                level--;
                pointer = base();
            }
            pointer--;
            Bucket gone = buckets.remove(buckets.size() - 1);
            for (Page page : gone.chain) {
                free.add(page.number);
            }
            Bucket left = buckets.get(pointer);
            List<Entry> had = left.entries();
            left.filter.clear();
            for (Entry entry : had) {
                left.filter.add(hash(entry.key) % 16);
                left.filter.add(hash(entry.key) / 16 % 16);
            }
            for (Entry entry : gone.entries()) {
                append(left, entry);
            }
            merges++;
        }

        void rehashBy(int newChoice, int newSeed) {
            List<Entry> taken = all();
            choice = new TreeSet<>();
            for (int bit = 0; bit < 10; bit++) {
                if (newChoice / (int) Math.pow(2, bit) % 2 == 1) {
                    choice.add(bit);
                }
            }
            seed = newSeed;
            digits.clear();
            asAtFirst();
            for (Entry entry : taken) {
                putEntry(entry.key, entry.value);
            }
        }

        Comparator<Integer> order() {
            return Comparator.<Integer>comparingInt(this::turned).thenComparingInt(key -> key);
        }

        List<Integer> keysInOrder() {
            List<Integer> keys = new ArrayList<>();
            for (Entry entry : all()) {
                keys.add(entry.key);
            }
            keys.sort(order());
            return keys;
        }

        int longest() {
            int longest = 0;
            for (Bucket bucket : buckets) {
                longest = Math.max(longest, bucket.chain.size());
            }
            return longest;
        }

        int visitsOf(boolean isHigh, int value) {
            String digits = digitsOfHash(isHigh ? value * 100 : value);
            int count = 0;
            for (int bucket = 0; bucket < buckets.size(); bucket++) {
                boolean looked = true;
                for (int bit = 0; bit < depth(bucket) + 1; bit++) {
                    boolean ofField = choice.contains(bit) == isHigh;
                    if (ofField && lowestFirst(bucket).charAt(bit) != digits.charAt(bit)) {
                        looked = false;
                    }
                }
                if (looked) {
                    count++;
                }
            }
            return count;
        }
    }

    static int setNumber(Iterable<Integer> set) {
        int number = 0;
        for (int member : set) {
            number += (int) Math.pow(2, member);
        }
        return number;
    }

    private Disc disc;
    private Disc kept;
    private int group;
    private final List<int[]> log = new ArrayList<>();
    private int loose;
    private final int[][] images = new int[3][2];
    private final Integer[] marks = new Integer[3];
    private int reads;
    private int falseOnes;
    private int forwards;
    private int crashes;
    private int refused;

    public Model() {
        foundAnew(2, 1);
    }

    private void foundAnew(int cap, int newGroup) {
        disc = new Disc(cap);
        kept = disc.copy();
        group = newGroup;
        log.clear();
        loose = 0;
        for (int[] image : images) {
            image[0] = 0;
            image[1] = 0;
        }
        closeAll();
    }

    private void closeAll() {
        for (int cursor = 0; cursor < 3; cursor++) {
            marks[cursor] = null;
        }
    }

    private static void argue(boolean right) {
        if (!right) {
            throw new IllegalArgumentException();
        }
    }

    private static void index(boolean right) {
        if (!right) {
            throw new IndexOutOfBoundsException();
        }
    }

    private static void state(boolean right) {
        if (!right) {
            throw new IllegalStateException();
        }
    }

    private static boolean in(int number, int least, int most) {
        return least <= number && number <= most;
    }

    private static void act(Disc on, int[] act) {
        switch (act[0]) {
            case 0:
                on.putEntry(act[1], act[2]);
                break;
            case 1:
                on.dropEntry(act[1]);
                break;
            case 2:
                on.rehashBy(act[1], act[2]);
                break;
            default:
                on.lower = act[1];
                on.upper = act[2];
                break;
        }
    }

    private void doAct(int kind, int first, int second) {
        if (log.size() == 60) {
            checkpoint();
        }
        int[] act = {kind, first, second};
        act(disc, act);
        log.add(act);
        loose++;
        if (loose == group) {
            loose = 0;
        }
    }

    private Disc behindCrash() {
        Disc again = kept.copy();
        for (int[] act : log.subList(0, log.size() - loose)) {
            act(again, act);
        }
        return again;
    }

    public int found(int cap, int newGroup) {
        argue(in(cap, 2, 4) && in(newGroup, 1, 8));
        int gone = disc.all().size();
        foundAnew(cap, newGroup);
        return gone;
    }

    public int bounds(int lower, int upper) {
        argue(in(lower, 0, 40) && in(upper, 50, 100));
        doAct(3, lower, upper);
        return disc.load();
    }

    public int put(int key, int value) {
        argue(in(key, 0, 9999) && in(value, 0, 9999));
        state(disc.all().size() < 60 || disc.entry(key) != null);
        int before = disc.valueOf(key);
        doAct(0, key, value);
        return before;
    }

    public int drop(int key) {
        argue(in(key, 0, 9999));
        int value = disc.valueOf(key);
        if (value != NONE) {
            doAct(1, key, 0);
        }
        return value;
    }

    public int rehash(int choice, int seed) {
        argue(in(choice, 0, 1023) && in(seed, 0, 9));
        doAct(2, choice, seed);
        closeAll();
        return 96 - disc.free.size();
    }

    public int find(int key) {
        argue(in(key, 0, 9999));
        Bucket bucket = disc.bucketOf(key);
        if (!disc.passes(bucket, key)) {
            return NONE;
        }
        for (Page page : bucket.chain) {
            reads++;
            for (Entry entry : page.row) {
                if (entry.key == key) {
                    return entry.value;
                }
            }
        }
        falseOnes++;
        return NONE;
    }

    public boolean open(int cursor) {
        index(in(cursor, 0, 2));
        boolean was = marks[cursor] == null;
        marks[cursor] = -2;
        return was;
    }

    public int next(int cursor) {
        index(in(cursor, 0, 2));
        state(marks[cursor] != null);
        for (int key : disc.keysInOrder()) {
            if (marks[cursor] == -2 || disc.order().compare(key, marks[cursor]) > 0) {
                marks[cursor] = key;
                return key;
            }
        }
        return NONE;
    }

    public int ask(int client, int key) {
        index(in(client, 0, 2));
        argue(in(key, 0, 9999));
        int[] image = images[client];
        int h = disc.hash(key);
        int a = Disc.addressBy(image[0], image[1], h);
        if (a >= disc.buckets.size()) {
            image[0] = disc.level;
            image[1] = disc.pointer;
            return 3;
        }
        int times = 0;
        int b = a;
        while (true) {
            int c = h % (2 * (int) Math.pow(2, disc.depth(b)));
            if (c == b) {
                break;
            }
            if (disc.depth(b) >= 1) {
                int d = h % (int) Math.pow(2, disc.depth(b));
                if (d > b && d < c) {
                    c = d;
                }
            }
            times++;
            forwards++;
            b = c;
        }
        if (b != disc.address(h)) {
            throw new AssertionError("forwarded to a wrong bucket");
        }
        if (times > 0) {
            int j = disc.depth(a);
            int half = (int) Math.pow(2, j - 1);
            image[0] = a + 1 >= 2 * half ? j : j - 1;
            image[1] = a + 1 >= 2 * half ? 0 : a + 1;
        }
        return times;
    }

    public int flush() {
        int count = loose;
        loose = 0;
        return count;
    }

    public int checkpoint() {
        int count = log.size();
        kept = disc.copy();
        log.clear();
        loose = 0;
        return count;
    }

    public int crash() {
        int lost = loose;
        disc = behindCrash();
        while (loose > 0) {
            log.remove(log.size() - 1);
            loose--;
        }
        crashes++;
        closeAll();
        return lost;
    }

    public int knock() {
        return ++refused;
    }

    public int get(int key) {
        argue(in(key, 0, 9999));
        return disc.valueOf(key);
    }

    public int ofKey(int key, int what) {
        argue(in(key, 0, 9999) && in(what, 0, 5));
        Bucket bucket = disc.bucketOf(key);
        int pageNumber = NONE;
        int at = NONE;
        for (Page page : bucket.chain) {
            for (int place = 0; place < page.row.size(); place++) {
                if (page.row.get(place).key == key) {
                    pageNumber = page.number;
                    at = place;
                }
            }
        }
        int[] answers = {disc.hash(key), disc.turned(key), disc.address(disc.hash(key)),
            disc.passes(bucket, key) ? 1 : 0, pageNumber, at};
        return answers[what];
    }

    public int ofFile(int what) {
        argue(in(what, 0, 21));
        int[] answers = {disc.all().size(), disc.buckets.size(), disc.level, disc.pointer,
            disc.load(), disc.lower, disc.upper, disc.cap, setNumber(disc.choice), disc.seed,
            96 - disc.free.size(), disc.longest(), disc.splits, disc.merges, reads, falseOnes,
            forwards, crashes, log.size(), loose, group, refused};
        return answers[what];
    }

    public int ofBucket(int bucket, int what) {
        index(in(bucket, 0, disc.buckets.size() - 1));
        argue(in(what, 0, 5));
        Bucket asked = disc.buckets.get(bucket);
        int[] answers = {asked.entries().size(), asked.chain.size(), setNumber(asked.filter),
            disc.depth(bucket), asked.chain.get(0).number, asked.lastPage().number};
        return answers[what];
    }

    public String chain(int bucket) {
        index(in(bucket, 0, disc.buckets.size() - 1));
        Bucket asked = disc.buckets.get(bucket);
        if (asked.entries().isEmpty()) {
            return "-";
        }
        List<String> rows = new ArrayList<>();
        for (Page page : asked.chain) {
            List<String> keys = new ArrayList<>();
            for (Entry entry : page.row) {
                keys.add("" + entry.key);
            }
            rows.add(String.join(" ", keys));
        }
        return String.join("|", rows);
    }

    public int ofPage(int page, int what) {
        index(in(page, 0, 95));
        argue(in(what, 0, 2));
        for (int bucket = 0; bucket < disc.buckets.size(); bucket++) {
            List<Page> chain = disc.buckets.get(bucket).chain;
            for (int i = 0; i < chain.size(); i++) {
                if (chain.get(i).number == page) {
                    int behind = i + 1 < chain.size() ? chain.get(i + 1).number : NONE;
                    int[] answers = {bucket, chain.get(i).row.size(), behind};
                    return answers[what];
                }
            }
        }
        return what == 1 ? 0 : NONE;
    }

    public int mark(int cursor) {
        index(in(cursor, 0, 2));
        return marks[cursor] == null ? NONE : marks[cursor];
    }

    public int ofClient(int client, int what) {
        index(in(client, 0, 2));
        argue(in(what, 0, 2));
        int[] image = images[client];
        int buckets = 2 * (int) Math.pow(2, image[0]) + image[1];
        int[] answers = {image[0], image[1], disc.buckets.size() - buckets};
        return answers[what];
    }

    public int seek(boolean isHigh, int value, int nth) {
        argue(in(value, 0, 99) && nth >= 0);
        List<Integer> keys = disc.keysInOrder();
        keys.removeIf(key -> (isHigh ? key / 100 : key % 100) != value);
        return nth < keys.size() ? keys.get(nth) : NONE;
    }

    public int visits(boolean isHigh, int value) {
        argue(in(value, 0, 99));
        return disc.visitsOf(isHigh, value);
    }

    public int would(int choice, int seed, int what) {
        argue(in(choice, 0, 1023) && in(seed, 0, 9) && in(what, 0, 3));
        Disc then = disc.copy();
        then.rehashBy(choice, seed);
        int[] answers = {96 - then.free.size(), then.longest(), then.visitsOf(true, 0),
            then.visitsOf(false, 0)};
        return answers[what];
    }

    public int crashed(int key) {
        argue(in(key, -1, 9999));
        Disc then = behindCrash();
        return key == NONE ? then.all().size() - disc.all().size() : then.valueOf(key);
    }

    public boolean isSound() {
        TreeSet<Integer> keys = new TreeSet<>();
        TreeSet<Integer> pages = new TreeSet<>(disc.free);
        int pageCount = disc.free.size();
        boolean sound = disc.pointer < disc.base() && loose < group;
        for (int number = 0; number < disc.buckets.size(); number++) {
            Bucket bucket = disc.buckets.get(number);
            for (Page page : bucket.chain) {
                pages.add(page.number);
                pageCount++;
                sound &= page.row.size() <= disc.cap;
                sound &= page == bucket.lastPage() || page.row.size() == disc.cap;
                sound &= page == bucket.chain.get(0) || !page.row.isEmpty();
                for (Entry entry : page.row) {
                    sound &= keys.add(entry.key);
                    sound &= disc.address(disc.hash(entry.key)) == number;
                    sound &= disc.passes(bucket, entry.key);
                }
            }
        }
        return sound && pageCount == 96 && pages.size() == 96;
    }

    public long digest() {
        List<Integer> numbers = new ArrayList<>();
        for (int what = 0; what <= 21; what++) {
            numbers.add(ofFile(what));
        }
        for (int bucket = 0; bucket < disc.buckets.size(); bucket++) {
            for (int what = 0; what <= 5; what++) {
                numbers.add(ofBucket(bucket, what));
            }
            numbers.add(chain(bucket).length());
        }
        for (Entry entry : disc.all()) {
            Collections.addAll(numbers, entry.key, entry.value);
        }
        for (int cursor = 0; cursor < 3; cursor++) {
            numbers.add(mark(cursor));
        }
        for (int client = 0; client < 3; client++) {
            for (int what = 0; what <= 2; what++) {
                numbers.add(ofClient(client, what));
            }
        }
        Collections.addAll(numbers, visits(true, 0), visits(false, 0), crashed(NONE),
                isSound() ? 1 : 0);
        long d = 7307;
        for (int number : numbers) {
            d = d * 31 + number;
        }
        return d;
    }
}
