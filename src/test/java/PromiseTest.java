/**
 * At least one test for each promise of the document, worked out by hand: ordinary calls, the
 * edges that it names, and wrong arguments.
 *
 * <p>With the first CHOICE, 682, and SEED, 0, the HASH of 0 to 7 is 0 1 4 5 16 17 20 21, a HIGH of
 * 1 adds 2 to it, one of 2 adds 8, one of 3 adds 10, and one of 4 adds 32.
 */
public final class PromiseTest {
    private static final Class<?> ARGUMENT = IllegalArgumentException.class;
    private static final Class<?> INDEX = IndexOutOfBoundsException.class;
    private static final Class<?> STATE = IllegalStateException.class;
    private static final int LOWEST = Integer.MIN_VALUE;
    private static final int HIGHEST = Integer.MAX_VALUE;
    private static int wrong = 0;

    private interface Call {
        void go();
    }

    public static void main(String[] args) {
        promise1();
        promise2();
        promise3();
        promise4();
        promise4Limit();
        promise5();
        promise5Merges();
        promise6();
        promise6Edges();
        promise7();
        promise8();
        promise9();
        promise10();
        promise10Backward();
        promise11();
        promise12();
        promise12FullLog();
        promise13();
        promise13Counts();
        promise14();
        promise15();
        promise16();
        promise17();
        promise18();
        promise19();
        promise20();
        promise21();
        promise22();
        promise23();
        promise24();
        promise25();
        promise26();
        promise27();
        promise28();
        System.out.println(wrong == 0 ? "all promises hold" : wrong + " answers are wrong");
        System.exit(wrong == 0 ? 0 : 1);
    }

    private static void same(String what, long due, long got) {
        if (due != got) {
            wrong++;
            System.out.println(what + ": " + got + ", due is " + due);
        }
    }

    private static void same(String what, String due, String got) {
        if (!due.equals(got)) {
            wrong++;
            System.out.println(what + ": " + got + ", due is " + due);
        }
    }

    private static void yes(String what, boolean got) {
        same(what, 1, got ? 1 : 0);
    }

    /** The call throws exactly that, and changes nothing that a digest can see. */
    private static void refuses(String what, Splitpointer on, Class<?> due, Call call) {
        long before = on.digest();
        Class<?> got = null;
        try {
            call.go();
        } catch (RuntimeException e) {
            got = e.getClass();
        }
        if (got != due) {
            wrong++;
            System.out.println(what + " threw " + got + ", due is " + due);
        }
        same(what + " changed something", before, on.digest());
    }

    private static Splitpointer with(int... keys) {
        Splitpointer x = new Splitpointer();
        for (int key : keys) {
            x.put(key, key + 1000);
        }
        return x;
    }

    /** No SPLIT and no MERGE as long as there are no more than 2 BUCKETS full of RECORDS. */
    private static Splitpointer loose(int cap, int group, int... keys) {
        Splitpointer x = new Splitpointer();
        x.found(cap, group);
        x.bounds(0, 100);
        for (int key : keys) {
            x.put(key, key + 1000);
        }
        return x;
    }

    private static void numbers(String what, Splitpointer x, int... due) {
        for (int i = 0; i < due.length; i++) {
            same(what + " ofFile(" + i + ")", due[i], x.ofFile(i));
        }
    }

    private static void promise1() {
        Splitpointer x = new Splitpointer();
        numbers("new", x, 0, 2, 0, 0, 0, 40, 80, 2, 682, 0, 2, 1, 0, 0, 0, 0, 0, 0, 0, 0, 1, 0);
        for (int i = 0; i < 3; i++) {
            same("new mark", -1, x.mark(i));
            same("new image level", 0, x.ofClient(i, 0));
            same("new image pointer", 0, x.ofClient(i, 1));
        }
        same("page 0 is of bucket 0", 0, x.ofPage(0, 0));
        same("page 1 is of bucket 1", 1, x.ofPage(1, 0));
        same("page 2 is free", -1, x.ofPage(2, 0));
        same("filter is empty", 0, x.ofBucket(0, 2));
        same("digest of a new one", -7257572334373883844L, x.digest());
    }

    private static void promise2() {
        Splitpointer x = with(0, 1, 2, 3, 100);
        x.bounds(10, 90);
        x.rehash(5, 5);
        x.find(0);
        x.find(0);
        for (int key = 0; key < 1000; key += 50) {
            x.ask(0, key + key / 100);
        }
        x.crash();
        x.knock();
        x.open(1);
        int reads = x.ofFile(14);
        int forwards = x.ofFile(16);
        yes("something was read", reads >= 2);
        yes("something was forwarded", forwards > 0);
        yes("an image has come along", x.ofClient(0, 2) < x.ofFile(1) - 2);
        same("found tells how many are gone", 5, x.found(3, 4));
        numbers("found", x, 0, 2, 0, 0, 0, 40, 80, 3, 682, 0, 2, 1, 0, 0, reads, 0, forwards, 1,
                0, 0, 4, 1);
        same("found closes cursors", -1, x.mark(1));
        same("found makes images anew", 0, x.ofClient(0, 2));
        same("nothing is left", -1, x.get(0));
        x.put(7, 1);
        same("one of a group of four is lost", 1, x.crash());
        same("a crash goes back to what was founded", 0, x.ofFile(0));
        same("with that cap", 3, x.ofFile(7));
        same("nothing is gone by an empty one", 0, x.found(4, 8));
        same("cap 4", 4, x.ofFile(7));
        same("group 8", 8, x.ofFile(20));
        same("cap 2 and group 1", 0, x.found(2, 1));
        refuses("found(1, 1)", x, ARGUMENT, () -> x.found(1, 1));
        refuses("found(5, 1)", x, ARGUMENT, () -> x.found(5, 1));
        refuses("found(2, 0)", x, ARGUMENT, () -> x.found(2, 0));
        refuses("found(2, 9)", x, ARGUMENT, () -> x.found(2, 9));
        refuses("found(lowest)", x, ARGUMENT, () -> x.found(LOWEST, HIGHEST));
    }

    private static void promise3() {
        Splitpointer x = with(0, 1, 2);
        same("bounds tells the load", 75, x.bounds(40, 50));
        same("nothing is split by bounds", 2, x.ofFile(1));
        same("an old key splits nothing", 1000, x.put(0, 9));
        same("still nothing", 2, x.ofFile(1));
        x.put(3, 1);
        same("a new key splits: 4 of 8 are 50", 4, x.ofFile(1));
        same("bounds is an act", 6, x.ofFile(18));
        x.bounds(0, 100);
        x.drop(3);
        x.drop(2);
        x.drop(1);
        same("nothing is merged by load 12", 4, x.ofFile(1));
        same("load 12", 12, x.bounds(40, 100));
        same("nothing is merged by bounds", 4, x.ofFile(1));
        same("lower", 40, x.ofFile(5));
        same("upper", 100, x.ofFile(6));
        refuses("bounds(-1, 80)", x, ARGUMENT, () -> x.bounds(-1, 80));
        refuses("bounds(41, 80)", x, ARGUMENT, () -> x.bounds(41, 80));
        refuses("bounds(0, 49)", x, ARGUMENT, () -> x.bounds(0, 49));
        refuses("bounds(0, 101)", x, ARGUMENT, () -> x.bounds(0, 101));
    }

    private static void promise4() {
        Splitpointer x = new Splitpointer();
        same("put a new key", -1, x.put(0, 10));
        same("put it again", 10, x.put(0, 0));
        same("a value of 0 is a value", 0, x.put(0, 9999));
        x.put(4, 11);
        x.put(1, 12);
        same("load is 75: no split", 0, x.ofFile(12));
        x.put(16, 13);
        same("load is 100: a split", 1, x.ofFile(12));
        same("3 buckets", 3, x.ofFile(1));
        same("level", 0, x.ofFile(2));
        same("pointer", 1, x.ofFile(3));
        same("0, 4 and 16 stay, as their hashes by 4 are 0", "0 4|16", x.chain(0));
        same("the new bucket is empty", "-", x.chain(2));
        same("page 2 was free again, and is taken first", 2, x.ofBucket(2, 4));
        same("page 3 is taken then", 3, x.ofBucket(0, 5));
        x.put(100, 14);
        same("100 has the hash 2", "100", x.chain(2));
        same("split of bucket 1: pointer 0 at level 1", 1, x.ofFile(2));
        same("pointer is 0 then", 0, x.ofFile(3));
        same("4 buckets", 4, x.ofFile(1));
        same("a put keeps its place", 11, x.put(4, 1));
        same("its place", "0 4|16", x.chain(0));
        refuses("put(-1, 0)", x, ARGUMENT, () -> x.put(-1, 0));
        refuses("put(10000, 0)", x, ARGUMENT, () -> x.put(10000, 0));
        refuses("put(0, -1)", x, ARGUMENT, () -> x.put(0, -1));
        refuses("put(0, 10000)", x, ARGUMENT, () -> x.put(0, 10000));
    }

    private static void promise4Limit() {
        Splitpointer x = new Splitpointer();
        x.bounds(0, 50);
        for (int i = 0; i < 60; i++) {
            same("put " + i, -1, x.put(i * 167 % 10000, i));
        }
        same("60 records", 60, x.ofFile(0));
        same("59 buckets: 100 * 60 / 118 is 50", 59, x.ofFile(1));
        same("57 splits", 57, x.ofFile(12));
        refuses("a 61st record", x, STATE, () -> x.put(9999, 1));
        refuses("wrong arguments come first", x, ARGUMENT, () -> x.put(9999, 10000));
        same("an old key can be put", 3, x.put(501, 77));
        x.drop(501);
        same("room again", -1, x.put(9999, 1));
        yes("all is sound", x.isSound());
    }

    private static void promise5() {
        Splitpointer x = loose(2, 1, 0, 4, 16, 20, 64);
        same("one chain", "0 4|16 20|64", x.chain(0));
        same("its last page", 4, x.ofBucket(0, 5));
        same("drop tells the value", 1000, x.drop(0));
        same("the last one comes into the place", "64 4|16 20", x.chain(0));
        same("its page is free", -1, x.ofPage(4, 0));
        same("nothing is behind the last page", -1, x.ofPage(x.ofBucket(0, 5), 2));
        same("drop of the last one itself", 1020, x.drop(20));
        same("nothing comes into its place", "64 4|16", x.chain(0));
        same("drop again", -1, x.drop(20));
        int acts = x.ofFile(18);
        same("drop of none is no act", -1, x.drop(5));
        same("no act", acts, x.ofFile(18));
        x.drop(64);
        x.drop(16);
        x.drop(4);
        same("the first page stays", 1, x.ofBucket(0, 1));
        same("it is empty", "-", x.chain(0));
        refuses("drop(-1)", x, ARGUMENT, () -> x.drop(-1));
        refuses("drop(10000)", x, ARGUMENT, () -> x.drop(10000));
    }

    private static void promise5Merges() {
        Splitpointer x = with(0, 1, 2, 3, 4, 5, 6, 7, 100, 200, 300, 400);
        same("12 of 16 are 75", 8, x.ofFile(1));
        int[] rest = {0, 1, 2, 3, 4, 5, 6, 7, 100, 200};
        for (int key : rest) {
            x.drop(key);
        }
        same("2 of 4 are 50", 2, x.ofFile(1));
        same("six merges", 6, x.ofFile(13));
        same("level 0", 0, x.ofFile(2));
        same("pointer 0", 0, x.ofFile(3));
        x.drop(300);
        x.drop(400);
        same("2 buckets are the least", 2, x.ofFile(1));
        same("nothing but them", 6, x.ofFile(13));
        Splitpointer y = loose(2, 1, 0, 100, 300, 200, 1);
        same("3 buckets", 3, y.ofFile(1));
        same("bucket 0", "0 200", y.chain(0));
        same("bucket 2", "100 300", y.chain(2));
        y.drop(1);
        y.bounds(40, 100);
        y.put(500, 1);
        y.drop(500);
        same("load 66: no merge", 3, y.ofFile(1));
        y.drop(0);
        same("3 of 6", 3, y.ofFile(1));
        y.drop(300);
        same("load 33: a merge", 2, y.ofFile(1));
        same("appended behind", "200 100", y.chain(0));
        same("the filter is made anew: hashes 8 and 2", 1 + 256 + 4, y.ofBucket(0, 2));
        same("pages of the last bucket are free", 2, y.ofFile(10));
    }

    private static void promise6() {
        Splitpointer x = with(0, 1, 2, 3, 100);
        same("chain before", "0 2", x.chain(0));
        same("splits before", 2, x.ofFile(12));
        x.open(0);
        same("pages after", 4, x.rehash(0, 0));
        same("cursors are closed", -1, x.mark(0));
        same("choice", 0, x.ofFile(8));
        same("load 62: 4 buckets", 4, x.ofFile(1));
        same("two splits more", 4, x.ofFile(12));
        same("by chains: 0 2 of 0, 1 3 of 1, then 100", "0 100", x.chain(0));
        same("hash is low", 99, x.ofKey(9999, 0));
        same("rehash is an act", 6, x.ofFile(18));
        refuses("rehash(-1, 0)", x, ARGUMENT, () -> x.rehash(-1, 0));
        refuses("rehash(1024, 0)", x, ARGUMENT, () -> x.rehash(1024, 0));
        refuses("rehash(0, -1)", x, ARGUMENT, () -> x.rehash(0, -1));
        refuses("rehash(0, 10)", x, ARGUMENT, () -> x.rehash(0, 10));
    }

    private static void promise6Edges() {
        Splitpointer x = loose(3, 1, 0, 1, 2, 3, 4, 5);
        x.bounds(7, 60);
        x.ask(0, 3);
        int buckets = x.ofFile(1);
        same("nothing is split by bounds", 2, buckets);
        same("two pages of bucket 0, and three buckets more", 5, x.rehash(1023, 0));
        same("100 * 6 / 12 is 50", 4, x.ofFile(1));
        same("cap stays", 3, x.ofFile(7));
        same("lower stays", 7, x.ofFile(5));
        same("upper stays", 60, x.ofFile(6));
        same("all have the hash 0, bucket by bucket", "0 2 4|1 3 5", x.chain(0));
        x.rehash(1023, 9);
        same("397 * 9 is 3573, of it 501", 501, x.ofKey(0, 0));
        same("in bucket 1", "0 2 4|1 3 5", x.chain(1));
        same("filter: 5 and 15", 32 + 32768, x.ofBucket(1, 2));
        same("an empty one has an empty filter", 0, x.ofBucket(0, 2));
        for (int key = 1; key < 6; key++) {
            x.drop(key);
        }
        same("one record in 4 buckets, as lower is 7", 8, x.ofFile(4));
        x.bounds(40, 50);
        x.rehash(682, 0);
        same("a rehash begins with 2 buckets", 2, x.ofFile(1));
        same("no merges by a rehash", 0, x.ofFile(13));
    }

    private static void promise7() {
        Splitpointer x = loose(2, 1, 0, 4, 16, 20, 64);
        same("find in the first page", 1000, x.find(0));
        same("one read", 1, x.ofFile(14));
        same("find in the third page", 1064, x.find(64));
        same("three reads more", 4, x.ofFile(14));
        same("no false one", 0, x.ofFile(15));
        same("a miss of the filter: hash 17", -1, x.find(5));
        same("reads nothing", 4, x.ofFile(14));
        same("is not false", 0, x.ofFile(15));
        x.drop(64);
        same("a false one, for the filter stays", -1, x.find(64));
        same("both pages are read", 6, x.ofFile(14));
        same("counted", 1, x.ofFile(15));
        int acts = x.ofFile(18);
        Splitpointer y = with(0);
        y.drop(0);
        same("an empty page is read, too", -1, y.find(0));
        same("one read of it", 1, y.ofFile(14));
        same("find is no act", acts, x.ofFile(18));
        Splitpointer z = with(2);
        same("hash 4 has 4 and 0, hash 64 has 0 and 4", -1, z.find(8));
        same("so that is false", 1, z.ofFile(15));
        same("hash 1 has 1 and 0", -1, z.find(1));
        same("one of both is not enough: hash 0 has only 0", -1, z.find(0));
        same("a false one", 2, z.ofFile(15));
        refuses("find(-1)", x, ARGUMENT, () -> x.find(-1));
        refuses("find(10000)", x, ARGUMENT, () -> x.find(10000));
    }

    private static void promise8() {
        Splitpointer x = with(3, 4);
        yes("it was closed", x.open(0));
        yes("it was open", !x.open(0));
        yes("another one was closed", x.open(2));
        x.next(0);
        yes("an open one is opened again", !x.open(0));
        same("from the beginning", -2, x.mark(0));
        same("the first one again", 4, x.next(0));
        x.rehash(1, 1);
        yes("closed by a rehash", x.open(0));
        x.crash();
        yes("closed by a crash", x.open(0));
        x.found(2, 1);
        yes("closed by found", x.open(0));
        refuses("open(-1)", x, INDEX, () -> x.open(-1));
        refuses("open(3)", x, INDEX, () -> x.open(3));
    }

    private static void promise9() {
        Splitpointer x = with(0, 1, 2, 100);
        refuses("next of a closed one", x, STATE, () -> x.next(0));
        refuses("next(-1)", x, INDEX, () -> x.next(-1));
        refuses("next(3)", x, INDEX, () -> x.next(3));
        x.open(0);
        x.open(1);
        same("hash 0", 0, x.next(0));
        same("hash 4: turned 128", 2, x.next(0));
        same("the mark", 2, x.mark(0));
        same("another cursor has its own", 0, x.next(1));
        x.drop(2);
        x.put(200, 1);
        x.put(300, 1);
        x.put(6, 1);
        x.put(7, 1);
        same("splits do not matter: hash 20 is behind 4, 200 with hash 8 is not", 6, x.next(0));
        same("hash 2", 100, x.next(0));
        same("hash 10", 300, x.next(0));
        same("hash 1", 1, x.next(0));
        same("hash 21", 7, x.next(0));
        same("none", -1, x.next(0));
        same("the mark stays", 7, x.mark(0));
        x.put(9, 1);
        same("a later one is not behind: hash 65", -1, x.next(0));
        x.put(11, 1);
        int[] others = {200, 6, 100, 300, 1, 9, 11, 7, -1};
        for (int due : others) {
            same("the other cursor", due, x.next(1));
        }
        Splitpointer y = with(1, 100);
        y.rehash(0, 0);
        y.put(0, 1);
        y.open(0);
        same("of the same hash the smaller key first", 0, y.next(0));
        same("then the greater one", 100, y.next(0));
        same("then hash 1", 1, y.next(0));
        y.drop(1);
        y.open(1);
        same("behind a mark that is gone: none", -1, y.next(0));
        y.put(201, 1);
        same("the same hash, a greater key", 201, y.next(0));
    }

    private static void promise10() {
        Splitpointer x = with(0, 1, 2, 3, 4, 5, 100, 200, 300);
        same("6 buckets", 6, x.ofFile(1));
        same("hash 21: 1 by the image, 5 by the file", 1, x.ask(0, 7));
        same("depth of 1 is 2: level 1", 1, x.ofClient(0, 0));
        same("pointer 2", 2, x.ofClient(0, 1));
        same("no forward then", 0, x.ask(0, 7));
        same("one is counted", 1, x.ofFile(16));
        same("hash 2: 0 by the image, 2 by the file", 1, x.ask(1, 100));
        same("depth of 0 is 2: level 1", 1, x.ofClient(1, 0));
        same("pointer 1", 1, x.ofClient(1, 1));
        same("no forward", 0, x.ask(2, 0));
        same("the image stays then", 0, x.ofClient(2, 0));
        same("two are counted", 2, x.ofFile(16));
        refuses("ask(-1, 0)", x, INDEX, () -> x.ask(-1, 0));
        refuses("ask(3, -1)", x, INDEX, () -> x.ask(3, -1));
        refuses("ask(0, -1)", x, ARGUMENT, () -> x.ask(0, -1));
        refuses("ask(0, 10000)", x, ARGUMENT, () -> x.ask(0, 10000));
        Splitpointer z = with(0, 1, 2, 3, 4, 5, 100);
        same("5 buckets", 5, z.ofFile(1));
        same("hash 21: 1 has depth 1, and it is there", 0, z.ask(0, 7));
        same("hash 7, by the way of 1 to 3", 1, z.ask(0, 103));
        same("depth 1: level 0 and pointer 2 are level 1", 1, z.ofClient(0, 0));
        same("and pointer 0", 0, z.ofClient(0, 1));
    }

    private static void promise10Backward() {
        Splitpointer x = loose(2, 1, 0, 1, 2, 3, 4, 5, 6, 7, 100, 200, 300, 400, 500);
        same("7 buckets", 7, x.ofFile(1));
        same("hash 6: from 0 to 2, as that is nearer, and to 6", 2, x.ask(0, 102));
        same("depth of 0 is 2: level 1", 1, x.ofClient(0, 0));
        same("pointer 1", 1, x.ofClient(0, 1));
        same("both are counted", 2, x.ofFile(16));
        x.ask(1, 7);
        x.bounds(40, 100);
        for (int key : new int[] {0, 1, 2, 3, 4, 5, 6, 7, 100, 200, 300}) {
            x.drop(key);
        }
        same("2 buckets", 2, x.ofFile(1));
        same("there is no bucket 4 any more", 3, x.ask(0, 2));
        same("the image is as the file: level", 0, x.ofClient(0, 0));
        same("the image is as the file: pointer", 0, x.ofClient(0, 1));
        same("of 3 nothing is counted", 3, x.ofFile(16));
        same("client 1 is ahead", -4, x.ofClient(1, 2));
        same("it can be right all the same", 0, x.ask(1, 0));
    }

    private static void promise11() {
        Splitpointer x = new Splitpointer();
        x.found(2, 3);
        same("nothing to flush", 0, x.flush());
        x.put(1, 1);
        x.put(2, 2);
        same("two are not flushed", 2, x.ofFile(19));
        same("flush tells two", 2, x.flush());
        same("then none", 0, x.ofFile(19));
        same("both are in the log", 2, x.ofFile(18));
        x.put(3, 3);
        x.put(3, 4);
        x.bounds(40, 80);
        same("three are flushed of themselves", 0, x.ofFile(19));
        same("flush tells none", 0, x.flush());
        same("a crash loses none of them", 0, x.crash());
        same("the last value", 4, x.get(3));
        x.drop(3);
        x.flush();
        x.crash();
        same("a flushed drop comes again", -1, x.get(3));
    }

    private static void promise12() {
        Splitpointer x = new Splitpointer();
        x.found(2, 8);
        same("nothing in the log", 0, x.checkpoint());
        x.put(1, 1);
        x.put(2, 2);
        x.drop(1);
        same("three acts", 3, x.checkpoint());
        same("the log is empty", 0, x.ofFile(18));
        same("nothing is left to flush", 0, x.ofFile(19));
        same("nothing is lost", 0, x.crash());
        same("kept, though never flushed", 2, x.get(2));
        x.put(4, 4);
        same("one is lost", 1, x.crash());
        same("the checkpoint is as it was", 1, x.ofFile(0));
        same("crash makes no checkpoint", 0, x.checkpoint());
    }

    private static void promise12FullLog() {
        Splitpointer x = new Splitpointer();
        x.found(2, 7);
        for (int i = 0; i < 60; i++) {
            x.put(i % 10, i);
        }
        same("60 acts", 60, x.ofFile(18));
        same("60 by 7 leaves 4", 4, x.ofFile(19));
        same("no act: no checkpoint", -1, x.drop(77));
        refuses("no act either", x, ARGUMENT, () -> x.put(0, -1));
        same("still 60", 60, x.ofFile(18));
        same("the last four would be lost", 49, x.crashed(9));
        x.put(0, 100);
        same("a checkpoint ahead of the next act", 1, x.ofFile(18));
        same("that one is not flushed", 1, x.ofFile(19));
        same("the four are kept", 59, x.crashed(9));
        same("one is lost", 1, x.crash());
        same("the others are not", 50, x.get(0));
        same("the log is empty", 0, x.ofFile(18));
    }

    private static void promise13() {
        Splitpointer x = new Splitpointer();
        x.found(3, 2);
        x.put(0, 1);
        x.put(1, 2);
        x.bounds(10, 60);
        x.rehash(0, 3);
        x.put(0, 5);
        x.knock();
        x.find(0);
        x.open(0);
        x.ask(0, 1);
        same("one act is lost", 1, x.crash());
        same("the value before it", 1, x.get(0));
        same("bounds come again", 10, x.ofFile(5));
        same("the rehash comes again", 3, x.ofFile(9));
        same("four acts in the log", 4, x.ofFile(18));
        same("all are flushed", 0, x.ofFile(19));
        same("crashes are counted", 1, x.ofFile(17));
        same("reads go on", 1, x.ofFile(14));
        same("refused ones go on", 1, x.ofFile(21));
        same("cursors are closed", -1, x.mark(0));
        same("a second crash loses none", 0, x.crash());
        same("two crashes", 2, x.ofFile(17));
        x.put(7, 7);
        x.checkpoint();
        x.drop(0);
        x.drop(1);
        x.drop(7);
        same("two drops are flushed, one is lost", 1, x.crash());
        same("one is left", 1, x.ofFile(0));
        same("7 is", 7, x.get(7));
        same("two acts are in the log", 2, x.ofFile(18));
    }

    private static void promise13Counts() {
        Splitpointer x = new Splitpointer();
        x.found(2, 8);
        for (int key = 0; key < 7; key++) {
            x.put(key, key);
        }
        same("3 splits", 3, x.ofFile(12));
        same("hash 7: from 1 to 3", 1, x.ask(0, 103));
        same("all are lost", 7, x.crash());
        same("the splits with them", 0, x.ofFile(12));
        same("2 buckets", 2, x.ofFile(1));
        same("images stay: level", 1, x.ofClient(0, 0));
        same("images stay: pointer", 0, x.ofClient(0, 1));
        same("forwards go on", 1, x.ofFile(16));
        for (int key = 0; key < 8; key++) {
            x.put(key, key);
        }
        int splits = x.ofFile(12);
        x.put(9, 9);
        x.drop(9);
        x.crash();
        same("the splits of the flushed ones come again", splits, x.ofFile(12));
        same("5 buckets: 8 of 10 are 80", 5, x.ofFile(1));
    }

    private static void promise14() {
        Splitpointer x = new Splitpointer();
        same("first", 1, x.knock());
        same("second", 2, x.knock());
        x.found(3, 3);
        x.crash();
        same("ever", 3, x.knock());
        same("ofFile tells it", 3, x.ofFile(21));
        same("a knock is no act", 0, x.ofFile(18));
    }

    private static void promise15() {
        Splitpointer x = with(0);
        same("get", 1000, x.get(0));
        same("get of none", -1, x.get(1));
        x.put(9999, 0);
        same("get of a value 0", 0, x.get(9999));
        same("nothing is read", 0, x.ofFile(14));
        same("nothing is false", 0, x.ofFile(15));
        refuses("get(-1)", x, ARGUMENT, () -> x.get(-1));
        refuses("get(10000)", x, ARGUMENT, () -> x.get(10000));
    }

    private static void promise16() {
        Splitpointer x = loose(2, 1, 0, 4, 16, 20, 64);
        same("hash of 9999", 15, x.ofKey(9999, 0));
        same("hash of 1", 1, x.ofKey(1, 0));
        same("hash of 3", 5, x.ofKey(3, 0));
        same("hash of 100", 2, x.ofKey(100, 0));
        same("hash of 101", 3, x.ofKey(101, 0));
        same("hash of 2000", 544, x.ofKey(2000, 0));
        for (int key = 0; key < 10000; key += 97) {
            same("hash of " + key, hashByHand(key), x.ofKey(key, 0));
        }
        same("hash of 31", 341, x.ofKey(31, 0));
        same("low has five digits of it only", 341, x.ofKey(63, 0));
        same("turned hash of 1", 512, x.ofKey(1, 1));
        same("turned hash of 100", 256, x.ofKey(100, 1));
        same("turned hash of 31", 682, x.ofKey(31, 1));
        same("address of 100, by 3 buckets", 2, x.ofKey(100, 2));
        same("address of 3, by 3 buckets", 1, x.ofKey(3, 2));
        same("filter lets 0 through", 1, x.ofKey(0, 3));
        same("filter does not let 5 through", 0, x.ofKey(5, 3));
        same("page of 64", x.ofBucket(0, 5), x.ofKey(64, 4));
        same("place of 20", 1, x.ofKey(20, 5));
        same("place of 64", 0, x.ofKey(64, 5));
        same("page of none", -1, x.ofKey(1, 4));
        same("place of none", -1, x.ofKey(1, 5));
        x.rehash(1023, 2);
        same("397 * 2 is 794", 794, x.ofKey(0, 0));
        same("99 by 794", 794 ^ 99, x.ofKey(9942, 0));
        refuses("ofKey(-1, 0)", x, ARGUMENT, () -> x.ofKey(-1, 0));
        refuses("ofKey(10000, 0)", x, ARGUMENT, () -> x.ofKey(10000, 0));
        refuses("ofKey(0, -1)", x, ARGUMENT, () -> x.ofKey(0, -1));
        refuses("ofKey(0, 6)", x, ARGUMENT, () -> x.ofKey(0, 6));
    }

    /** By the first CHOICE: HIGH in the odd digits, LOW in the even ones. */
    private static int hashByHand(int key) {
        int hash = 0;
        for (int i = 0; i < 5; i++) {
            hash += (key / 100 >> i & 1) << 2 * i + 1;
            hash += (key % 100 >> i & 1) << 2 * i;
        }
        return hash;
    }

    private static void promise17() {
        Splitpointer x = new Splitpointer();
        x.found(3, 4);
        x.bounds(33, 66);
        for (int key = 0; key < 10; key++) {
            x.put(key * 101, key);
        }
        x.drop(909);
        x.rehash(77, 7);
        x.find(0);
        x.find(1);
        x.knock();
        x.ask(0, 101);
        x.ask(1, 303);
        same("records", 9, x.ofFile(0));
        same("buckets: 100 * 9 / 15 is 60", 5, x.ofFile(1));
        same("level", 1, x.ofFile(2));
        same("pointer", 1, x.ofFile(3));
        same("load", 60, x.ofFile(4));
        same("lower", 33, x.ofFile(5));
        same("upper", 66, x.ofFile(6));
        same("cap", 3, x.ofFile(7));
        same("choice", 77, x.ofFile(8));
        same("seed", 7, x.ofFile(9));
        int pages = 0;
        int longest = 0;
        for (int bucket = 0; bucket < 5; bucket++) {
            pages += x.ofBucket(bucket, 1);
            longest = Math.max(longest, x.ofBucket(bucket, 1));
        }
        same("pages", pages, x.ofFile(10));
        same("longest", longest, x.ofFile(11));
        same("splits: 3 by puts (10 of 15 are 66), 3 by the rehash", 6, x.ofFile(12));
        same("merges", 0, x.ofFile(13));
        same("acts", 13, x.ofFile(18));
        same("not flushed", 1, x.ofFile(19));
        same("group", 4, x.ofFile(20));
        same("refused", 1, x.ofFile(21));
        refuses("ofFile(-1)", x, ARGUMENT, () -> x.ofFile(-1));
        refuses("ofFile(22)", x, ARGUMENT, () -> x.ofFile(22));
    }

    private static void promise18() {
        Splitpointer x = loose(2, 1, 0, 4, 16, 20, 64);
        same("records", 5, x.ofBucket(0, 0));
        same("length of the chain", 3, x.ofBucket(0, 1));
        // Hashes 0, 16, 256, 272 and 0: 0 and 0, 0 and 1, 0 and 0, 0 and 1, 0 and 0.
        same("filter", 3, x.ofBucket(0, 2));
        same("depth of 0", 1, x.ofBucket(0, 3));
        same("depth of 1", 0, x.ofBucket(1, 3));
        same("depth of 2", 1, x.ofBucket(2, 3));
        same("first page", 0, x.ofBucket(0, 4));
        same("last page", 4, x.ofBucket(0, 5));
        same("an empty bucket: records", 0, x.ofBucket(2, 0));
        same("an empty bucket: chain", 1, x.ofBucket(2, 1));
        same("an empty bucket: first and last", x.ofBucket(2, 4), x.ofBucket(2, 5));
        refuses("no such bucket", x, INDEX, () -> x.ofBucket(3, 0));
        refuses("the bucket comes first", x, INDEX, () -> x.ofBucket(-1, 6));
        refuses("ofBucket(0, -1)", x, ARGUMENT, () -> x.ofBucket(0, -1));
        refuses("ofBucket(0, 6)", x, ARGUMENT, () -> x.ofBucket(0, 6));
        refuses("ofBucket(highest, 0)", x, INDEX, () -> x.ofBucket(HIGHEST, 0));
    }

    private static void promise19() {
        Splitpointer x = loose(2, 1, 0, 4, 16, 20, 64);
        same("three pages", "0 4|16 20|64", x.chain(0));
        same("none", "-", x.chain(1));
        x.put(9999, 1);
        same("four digits", "9999", x.chain(1));
        x.put(7, 1);
        same("a split leaves 7, of hash 21", "7", x.chain(1));
        same("and 9999 goes, of hash 15", "9999", x.chain(3));
        refuses("chain(-1)", x, INDEX, () -> x.chain(-1));
        refuses("chain(4)", x, INDEX, () -> x.chain(x.ofFile(1)));
    }

    private static void promise20() {
        Splitpointer x = loose(2, 1, 0, 4, 16, 20, 64);
        same("page 0 is of bucket 0", 0, x.ofPage(0, 0));
        same("two in it", 2, x.ofPage(0, 1));
        int second = x.ofPage(0, 2);
        int third = x.ofPage(second, 2);
        same("the third one is the last", x.ofBucket(0, 5), third);
        same("one in it", 1, x.ofPage(third, 1));
        same("none behind it", -1, x.ofPage(third, 2));
        same("page 1 is of bucket 1", 1, x.ofPage(1, 0));
        same("nothing in it", 0, x.ofPage(1, 1));
        same("page 95 is free", -1, x.ofPage(95, 0));
        same("nothing in a free one", 0, x.ofPage(95, 1));
        same("nothing behind a free one", -1, x.ofPage(95, 2));
        x.drop(64);
        same("free now", -1, x.ofPage(third, 0));
        same("and empty", 0, x.ofPage(third, 1));
        x.put(80, 1);
        same("the free one with the smallest number is taken", third, x.ofKey(80, 4));
        refuses("ofPage(-1, 0)", x, INDEX, () -> x.ofPage(-1, 0));
        refuses("ofPage(96, 3)", x, INDEX, () -> x.ofPage(96, 3));
        refuses("ofPage(0, -1)", x, ARGUMENT, () -> x.ofPage(0, -1));
        refuses("ofPage(0, 3)", x, ARGUMENT, () -> x.ofPage(0, 3));
    }

    private static void promise21() {
        Splitpointer x = with(5);
        same("closed", -1, x.mark(2));
        x.open(2);
        same("ahead of all", -2, x.mark(2));
        x.next(2);
        same("a key", 5, x.mark(2));
        x.next(2);
        same("it stays", 5, x.mark(2));
        x.drop(5);
        same("also without that record", 5, x.mark(2));
        x.rehash(0, 0);
        same("closed again", -1, x.mark(2));
        refuses("mark(-1)", x, INDEX, () -> x.mark(-1));
        refuses("mark(3)", x, INDEX, () -> x.mark(3));
    }

    private static void promise22() {
        Splitpointer x = with(0, 1, 2, 3, 4, 5, 100, 200, 300);
        same("four more", 4, x.ofClient(0, 2));
        x.ask(0, 7);
        same("level 1", 1, x.ofClient(0, 0));
        same("pointer 2", 2, x.ofClient(0, 1));
        same("none more", 0, x.ofClient(0, 2));
        same("another client", 4, x.ofClient(1, 2));
        for (int key = 0; key < 6; key++) {
            x.drop(key);
        }
        same("below 0", x.ofFile(1) - 6, x.ofClient(0, 2));
        yes("that is below 0", x.ofClient(0, 2) < 0);
        refuses("ofClient(-1, 3)", x, INDEX, () -> x.ofClient(-1, 3));
        refuses("ofClient(3, 0)", x, INDEX, () -> x.ofClient(3, 0));
        refuses("ofClient(0, -1)", x, ARGUMENT, () -> x.ofClient(0, -1));
        refuses("ofClient(0, 3)", x, ARGUMENT, () -> x.ofClient(0, 3));
    }

    private static void promise23() {
        Splitpointer x = with(0, 1, 2, 3, 4, 100, 200, 300);
        int[] high = {0, 4, 2, 1, 3};
        for (int i = 0; i < high.length; i++) {
            same("high 0, number " + i, high[i], x.seek(true, 0, i));
        }
        same("not so many", -1, x.seek(true, 0, 5));
        int[] low = {0, 200, 100, 300};
        for (int i = 0; i < low.length; i++) {
            same("low 0, number " + i, low[i], x.seek(false, 0, i));
        }
        same("no more", -1, x.seek(false, 0, HIGHEST));
        same("none of that value", -1, x.seek(true, 99, 0));
        same("no cursor is opened", -1, x.mark(0));
        refuses("seek(true, -1, 0)", x, ARGUMENT, () -> x.seek(true, -1, 0));
        refuses("seek(false, 100, 0)", x, ARGUMENT, () -> x.seek(false, 100, 0));
        refuses("seek(true, 0, -1)", x, ARGUMENT, () -> x.seek(true, 0, -1));
    }

    private static void promise24() {
        Splitpointer x = with();
        same("2 buckets by low: digit 0", 1, x.visits(false, 0));
        same("2 buckets by high: no digit of it", 2, x.visits(true, 0));
        for (int key = 0; key < 8; key++) {
            x.put(key, 1);
        }
        // 5 buckets, with the digits 000, 01, 10, 11 and 100.
        same("5 buckets", 5, x.ofFile(1));
        same("high 0: 000, 01, 100", 3, x.visits(true, 0));
        same("high 1: 10, 11", 2, x.visits(true, 1));
        same("low 0: 000, 10", 2, x.visits(false, 0));
        same("low 1: 01, 11", 2, x.visits(false, 1));
        same("low 2: 100, 10", 2, x.visits(false, 2));
        same("low 99 is as 3", 2, x.visits(false, 99));
        x.rehash(1023, 0);
        same("all by low then", x.ofFile(1), x.visits(false, 7));
        same("one by high", 1, x.visits(true, 7));
        x.rehash(682, 1);
        // 397 has the lowest digits 101.
        same("by a seed: low 0 has the digits 1 of 0 and 1 of 2", 2, x.visits(false, 0));
        same("by a seed: low 3 has 0 and 0", 2, x.visits(false, 3));
        refuses("visits(true, -1)", x, ARGUMENT, () -> x.visits(true, -1));
        refuses("visits(false, 100)", x, ARGUMENT, () -> x.visits(false, 100));
    }

    private static void promise25() {
        Splitpointer x = loose(2, 3, 0, 4, 16, 20, 64);
        x.open(0);
        long before = x.digest();
        int[] choices = {0, 1, 341, 682, 1023};
        for (int choice : choices) {
            for (int seed = 0; seed < 10; seed++) {
                Splitpointer y = loose(2, 3, 0, 4, 16, 20, 64);
                y.rehash(choice, seed);
                String by = "would by " + choice + " and " + seed;
                same(by + ", pages", y.ofFile(10), x.would(choice, seed, 0));
                same(by + ", longest", y.ofFile(11), x.would(choice, seed, 1));
                same(by + ", high", y.visits(true, 0), x.would(choice, seed, 2));
                same(by + ", low", y.visits(false, 0), x.would(choice, seed, 3));
            }
        }
        same("nothing is changed", before, x.digest());
        same("the longest of one hash", 3, x.would(1023, 0, 1));
        refuses("would(-1, 0, 0)", x, ARGUMENT, () -> x.would(-1, 0, 0));
        refuses("would(1024, 0, 0)", x, ARGUMENT, () -> x.would(1024, 0, 0));
        refuses("would(0, -1, 0)", x, ARGUMENT, () -> x.would(0, -1, 0));
        refuses("would(0, 10, 0)", x, ARGUMENT, () -> x.would(0, 10, 0));
        refuses("would(0, 0, -1)", x, ARGUMENT, () -> x.would(0, 0, -1));
        refuses("would(0, 0, 4)", x, ARGUMENT, () -> x.would(0, 0, 4));
    }

    private static void promise26() {
        Splitpointer x = new Splitpointer();
        x.found(2, 3);
        x.put(0, 1);
        x.put(1, 2);
        same("two would be lost", -2, x.crashed(-1));
        same("the value would be none", -1, x.crashed(0));
        x.put(0, 3);
        same("flushed: none would be lost", 0, x.crashed(-1));
        same("the last value", 3, x.crashed(0));
        x.put(0, 4);
        x.drop(1);
        same("one would come back", 1, x.crashed(-1));
        same("its value", 2, x.crashed(1));
        same("the value flushed", 3, x.crashed(0));
        same("nothing is changed", 4, x.get(0));
        same("nothing is counted", 0, x.ofFile(17));
        x.checkpoint();
        same("the checkpoint has it", 4, x.crashed(0));
        same("and none of that", -1, x.crashed(1));
        same("a key that never was", -1, x.crashed(9999));
        refuses("crashed(-2)", x, ARGUMENT, () -> x.crashed(-2));
        refuses("crashed(10000)", x, ARGUMENT, () -> x.crashed(10000));
    }

    private static void promise27() {
        Splitpointer x = new Splitpointer();
        yes("a new one is sound", x.isSound());
        x.found(2, 8);
        for (int i = 0; i < 60; i++) {
            x.put(i * 100 % 9901, i);
            yes("sound after a put", x.isSound());
        }
        for (int seed = 0; seed < 10; seed++) {
            x.rehash(seed * 100, seed);
            yes("sound after a rehash", x.isSound());
        }
        for (int i = 0; i < 60; i++) {
            x.drop(i * 100 % 9901);
            yes("sound after a drop", x.isSound());
        }
        x.put(1, 1);
        x.crash();
        yes("sound after a crash", x.isSound());
    }

    private static void promise28() {
        Splitpointer x = loose(2, 3, 0, 4, 16, 20, 64, 777, 31);
        x.put(9999, 12);
        x.open(1);
        x.next(1);
        x.ask(0, 777);
        x.ask(1, 16);
        x.find(9999);
        x.find(5);
        same("digest by the other calls", digestByHand(x), x.digest());
        x.put(0, 4);
        x.put(31, 1);
        same("again, with acts that would be lost", digestByHand(x), x.digest());
        same("a digest changes nothing", x.digest(), x.digest());
        long before = x.digest();
        x.put(0, 5);
        yes("a value matters", before != x.digest());
    }

    private static long digestByHand(Splitpointer x) {
        long d = 7307;
        for (int what = 0; what <= 21; what++) {
            d = d * 31 + x.ofFile(what);
        }
        int buckets = x.ofFile(1);
        String keys = "";
        for (int bucket = 0; bucket < buckets; bucket++) {
            for (int what = 0; what <= 5; what++) {
                d = d * 31 + x.ofBucket(bucket, what);
            }
            String chain = x.chain(bucket);
            d = d * 31 + chain.length();
            keys += chain.equals("-") ? "" : " " + chain.replace('|', ' ');
        }
        for (String key : keys.trim().split(" ")) {
            d = d * 31 + Integer.parseInt(key);
            d = d * 31 + x.get(Integer.parseInt(key));
        }
        for (int cursor = 0; cursor < 3; cursor++) {
            d = d * 31 + x.mark(cursor);
        }
        for (int client = 0; client < 3; client++) {
            for (int what = 0; what <= 2; what++) {
                d = d * 31 + x.ofClient(client, what);
            }
        }
        d = d * 31 + x.visits(true, 0);
        d = d * 31 + x.visits(false, 0);
        d = d * 31 + x.crashed(-1);
        return d * 31 + (x.isSound() ? 1 : 0);
    }
}
