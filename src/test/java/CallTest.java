import java.io.IOException;
import java.math.BigInteger;

/** A test for each sentence of the promises 1 to 28, at the boundary that it names. */
public final class CallTest extends Sentences {
    private static final String ARGUMENT_IF = "Throws `IllegalArgumentException` if ";
    private static final String INDEX_IF = "Throws `IndexOutOfBoundsException` if ";
    private static final String STATE_IF = "Throws `IllegalStateException` if ";
    private static final String KEY_THROWS = ARGUMENT_IF + "key is not 0 to 9999";
    private static final String CURSOR_THROWS = INDEX_IF + "cursor is not 0 to 2";
    private static final String CLIENT_THROWS = INDEX_IF + "client is not 0 to 2";
    private static final String BUCKET_THROWS = INDEX_IF + "there is no such BUCKET";

    public static void main(String[] args) throws IOException {
        made();
        found();
        bounds();
        put();
        drop();
        rehash();
        find();
        open();
        next();
        ask();
        flush();
        checkpoint();
        crash();
        knock();
        get();
        ofKey();
        ofKeyPlace();
        ofFile();
        ofFileCounts();
        ofBucket();
        chain();
        ofPage();
        ofPageChain();
        ofPageThrows();
        mark();
        ofClient();
        seek();
        visits();
        would();
        crashed();
        isSound();
        isSoundStates();
        digest();
        digestParts();
        finish();
    }

    private static void made() {
        promise(1, "Creates a file of CAP 2 and GROUP 1.", x -> {
            same(2, x.ofFile(7));
            same(1, x.ofFile(20));
            same(0, x.ofFile(0));
            same(2, x.ofFile(1));
            same(0, x.ofFile(17));
            same(0, x.ofFile(21));
            x.put(1, 1);
            same(0, x.crash());
            same(1, x.get(1));
            same(NONE, new Splitpointer().get(1));
        });
    }

    private static void found() {
        promise(2, "FOUNDS the file anew.", x -> {
            put(x, keys(0, 1, 20));
            x.found(2, 1);
            same(0, x.ofFile(0));
            same(2, x.ofFile(1));
            same(NONE, x.get(0));
            same(NONE, x.find(0));
            same("-", x.chain(0));
            x.found(2, 1);
            same(0, x.ofFile(0));
        });
        promise(2, "Returns how many RECORDS are gone by that.", x -> {
            same(0, x.found(4, 1));
            put(x, keys(0, 1, 60));
            same(60, x.found(4, 1));
            same(0, x.found(4, 1));
            x.put(5, 1);
            x.put(5, 2);
            same(1, x.found(2, 1));
        });
        promise(2, ARGUMENT_IF + "cap is not 2 to 4, or group not 1 to 8", x -> {
            x.put(1, 1);
            refuses(x, ARGUMENT, () -> x.found(1, 1), () -> x.found(5, 1), () -> x.found(2, 0),
                    () -> x.found(2, 9), () -> x.found(1, 9), () -> x.found(LOWEST, 1),
                    () -> x.found(HIGHEST, 1), () -> x.found(2, LOWEST), () -> x.found(2, HIGHEST));
            allows(() -> x.found(2, 1), () -> x.found(4, 8), () -> x.found(2, 8),
                    () -> x.found(4, 1));
            same(4, x.ofFile(7));
            same(1, x.ofFile(20));
        });
    }

    private static void bounds() {
        promise(3, "Tells BOUNDS (nothing is SPLIT or MERGED by that, also if LOAD is beyond "
                + "them).", x -> {
            byLow(x, 2, 1);
            put(x, 0, 1, 2, 3);
            x.bounds(40, 50);
            same(100, x.ofFile(4));
            same(2, x.ofFile(1));
            put(x, 4);
            same(5, x.ofFile(1));
            x.bounds(0, 100);
            drop(x, 0, 1, 2, 3, 4);
            x.bounds(40, 100);
            same(0, x.ofFile(4));
            same(5, x.ofFile(1));
            same(0, x.ofFile(13));
        });
        promise(3, "Returns LOAD.", x -> {
            same(0, x.bounds(40, 80));
            byLow(x, 2, 1);
            put(x, 0);
            same(25, x.bounds(0, 100));
            put(x, 1, 2, 3);
            same(100, x.bounds(0, 50));
            put(x, 4);
            same(50, x.bounds(0, 50));
        });
        promise(3, ARGUMENT_IF + "lower is not 0 to 40, or upper not 50 to 100", x -> {
            refuses(x, ARGUMENT, () -> x.bounds(-1, 50), () -> x.bounds(41, 50),
                    () -> x.bounds(0, 49), () -> x.bounds(0, 101), () -> x.bounds(LOWEST, 50),
                    () -> x.bounds(HIGHEST, 50), () -> x.bounds(0, LOWEST),
                    () -> x.bounds(0, HIGHEST));
            allows(() -> x.bounds(0, 50), () -> x.bounds(0, 100), () -> x.bounds(40, 50),
                    () -> x.bounds(40, 100));
        });
    }

    private static void put() {
        promise(4, "PUTS a RECORD.", x -> {
            x.put(9999, 1);
            x.put(0, 9999);
            same(2, x.ofFile(0));
            same(1, x.get(9999));
            same(9999, x.get(0));
        });
        promise(4, "Returns the VALUE before; NONE, if there was none.", x -> {
            same(NONE, x.put(5, 0));
            // A VALUE of 0 is one.
            same(0, x.put(5, 9999));
            same(9999, x.put(5, 9999));
            x.drop(5);
            same(NONE, x.put(5, 3));
            same(NONE, x.put(105, 4));
        });
        promise(4, ARGUMENT_IF + "key or value is not 0 to 9999", x -> {
            refuses(x, ARGUMENT, () -> x.put(-1, 0), () -> x.put(10000, 0), () -> x.put(0, -1),
                    () -> x.put(0, 10000), () -> x.put(LOWEST, 0), () -> x.put(HIGHEST, 0),
                    () -> x.put(0, LOWEST), () -> x.put(0, HIGHEST));
            allows(() -> x.put(0, 0), () -> x.put(0, 9999), () -> x.put(9999, 0));
        });
        promise(4, STATE_IF + "there are 60, and none of that KEY", x -> {
            x.found(4, 1);
            put(x, keys(0, 1, 59));
            allows(() -> x.put(9999, 1));
            refuses(x, STATE, () -> x.put(59, 1), () -> x.put(9998, 1));
            allows(() -> x.put(9999, 2), () -> x.put(0, 2), () -> x.drop(0), () -> x.put(59, 1));
            refuses(x, STATE, () -> x.put(0, 1));
        });
    }

    private static void drop() {
        promise(5, "DROPS a RECORD.", x -> {
            put(x, 1, 101, 2);
            x.drop(101);
            same(2, x.ofFile(0));
            same(NONE, x.get(101));
            same(1001, x.get(1));
            same(1002, x.get(2));
        });
        promise(5, "Returns its VALUE; NONE, if there is none.", x -> {
            same(NONE, x.drop(0));
            x.put(0, 0);
            x.put(9999, 9999);
            same(0, x.drop(0));
            same(NONE, x.drop(0));
            same(9999, x.drop(9999));
            same(NONE, x.drop(9999));
            same(4, x.ofFile(18));
            x.put(5, 77);
            same(77, x.drop(5));
        });
        promise(5, KEY_THROWS, x -> {
            put(x, 0, 9999);
            refuses(x, ARGUMENT, () -> x.drop(-1), () -> x.drop(10000), () -> x.drop(LOWEST),
                    () -> x.drop(HIGHEST));
            allows(() -> x.drop(0), () -> x.drop(9999));
        });
    }

    private static void rehash() {
        promise(6, "REHASHES.", x -> {
            put(x, keys(0, 1, 10));
            x.rehash(1023, 9);
            same(1023, x.ofFile(8));
            same(9, x.ofFile(9));
            same(10, x.ofFile(0));
            same(501, x.ofKey(0, 0));
            same(1009, x.get(9));
        });
        promise(6, "Returns how many PAGES are not FREE then.", x -> {
            same(2, x.rehash(0, 0));
            byLow(x, 2, 1);
            put(x, 0, 1, 2, 3);
            same(2, x.rehash(0, 0));
            // All are in BUCKET 0.
            same(3, x.rehash(1023, 0));
            byLow(x, 2, 1);
            x.bounds(0, 50);
            put(x, keys(0, 100, 60));
            same(88, x.rehash(0, 1));
            same(88, x.ofFile(10));
        });
        promise(6, ARGUMENT_IF + "choice is not 0 to 1023, or seed not 0 to 9", x -> {
            x.open(0);
            refuses(x, ARGUMENT, () -> x.rehash(-1, 0), () -> x.rehash(1024, 0),
                    () -> x.rehash(0, -1), () -> x.rehash(0, 10), () -> x.rehash(LOWEST, 0),
                    () -> x.rehash(HIGHEST, 0), () -> x.rehash(0, LOWEST),
                    () -> x.rehash(0, HIGHEST));
            same(-2, x.mark(0));
            allows(() -> x.rehash(0, 0), () -> x.rehash(0, 9), () -> x.rehash(1023, 0),
                    () -> x.rehash(1023, 9));
        });
    }

    private static void find() {
        promise(7, "FINDS a KEY.", x -> {
            x.put(7, 70);
            same(70, x.find(7));
            counts(x, 1, 0);
            same(70, x.find(7));
            counts(x, 2, 0);
        });
        promise(7, "Returns its VALUE; NONE by a MISS.", x -> {
            byLow(x, 2, 1);
            x.put(0, 0);
            x.put(99, 9999);
            same(0, x.find(0));
            same(9999, x.find(99));
            // A MISS by the FILTER, and a FALSE one.
            same(NONE, x.find(1));
            same(NONE, x.find(199));
        });
        promise(7, KEY_THROWS, x -> {
            refuses(x, ARGUMENT, () -> x.find(-1), () -> x.find(10000), () -> x.find(LOWEST),
                    () -> x.find(HIGHEST));
            allows(() -> x.find(0), () -> x.find(9999));
        });
    }

    private static void open() {
        promise(8, "OPENS a CURSOR (also one that is open: from the beginning).", x -> {
            put(x, 0, 1);
            x.open(2);
            same(-2, x.mark(2));
            x.next(2);
            x.next(2);
            same(1, x.mark(2));
            x.open(0);
            same(1, x.mark(2));
            x.open(2);
            same(-2, x.mark(2));
            same(-2, x.mark(0));
            same(0, x.next(2));
            same(NONE, x.mark(1));
        });
        promise(8, "Returns whether it was CLOSED.", x -> {
            yes(x.open(0));
            no(x.open(0));
            yes(x.open(2));
            x.put(1, 1);
            x.next(2);
            no(x.open(2));
            x.crash();
            yes(x.open(2));
        });
        promise(8, CURSOR_THROWS, x -> {
            refuses(x, INDEX, () -> x.open(-1), () -> x.open(3), () -> x.open(LOWEST),
                    () -> x.open(HIGHEST));
            allows(() -> x.open(0), () -> x.open(2));
        });
    }

    private static void next() {
        promise(9, "Returns NEXT of it, a KEY (NONE).", x -> {
            x.open(0);
            same(NONE, x.next(0));
            put(x, 9999, 0);
            same(0, x.next(0));
            same(9999, x.next(0));
            same(NONE, x.next(0));
        });
        promise(9, CURSOR_THROWS, x -> {
            refuses(x, INDEX, () -> x.next(-1), () -> x.next(3), () -> x.next(LOWEST),
                    () -> x.next(HIGHEST));
            x.open(0);
            x.open(2);
            allows(() -> x.next(0), () -> x.next(2));
        });
        promise(9, STATE_IF + "it is CLOSED", x -> {
            x.put(1, 1);
            refuses(x, STATE, () -> x.next(0), () -> x.next(2));
            x.open(0);
            refuses(x, STATE, () -> x.next(2));
            // At its end it is still open.
            allows(() -> x.next(0), () -> x.next(0), () -> x.next(0));
            x.rehash(1, 1);
            refuses(x, STATE, () -> x.next(0));
        });
    }

    private static void ask() {
        promise(10, "A CLIENT ASKS for a KEY.", x -> {
            byLow(x, 2, 1);
            put(x, keys(0, 1, 7));
            // There need not be a RECORD.
            same(1, x.ask(1, 1002));
            image(x, 1, 0, 1);
            image(x, 0, 0, 0);
            image(x, 2, 0, 0);
            counts(x, 0, 0);
        });
        promise(10, "Returns how often it was FORWARDED, or 3, as part 5 says.", x -> {
            byLow(x, 2, 1);
            put(x, keys(0, 1, 13));
            same(0, x.ask(0, 0));
            same(1, x.ask(1, 7));
            same(2, x.ask(0, 6));
            x.ask(0, 6);
            image(x, 0, 1, 3);
            x.found(2, 1);
            byLow(x, 2, 1);
            put(x, keys(0, 1, 7));
            x.ask(0, 3);
            image(x, 0, 1, 0);
            x.bounds(40, 100);
            drop(x, keys(0, 1, 6));
            same(2, x.ofFile(1));
            same(0, x.ask(0, 1));
            image(x, 0, 1, 0);
            same(3, x.ask(0, 2));
            image(x, 0, 0, 0);
            same(0, x.ask(0, 2));
        });
        promise(10, CLIENT_THROWS, x -> {
            refuses(x, INDEX, () -> x.ask(-1, 0), () -> x.ask(3, 0), () -> x.ask(LOWEST, 0),
                    () -> x.ask(HIGHEST, 0));
            allows(() -> x.ask(0, 0), () -> x.ask(2, 0));
        });
        promise(10, KEY_THROWS, x -> {
            refuses(x, ARGUMENT, () -> x.ask(0, -1), () -> x.ask(0, 10000),
                    () -> x.ask(2, LOWEST), () -> x.ask(2, HIGHEST));
            allows(() -> x.ask(0, 0), () -> x.ask(0, 9999));
        });
    }

    private static void flush() {
        promise(11, "FLUSHES all ACTS.", x -> {
            x.flush();
            x.found(2, 8);
            x.put(1, 1);
            x.put(1, 2);
            x.bounds(7, 77);
            x.flush();
            log(x, 3, 0);
            x.put(1, 3);
            same(1, x.crash());
            same(2, x.get(1));
            same(7, x.ofFile(5));
        });
        promise(11, "Returns how many were not FLUSHED.", x -> {
            same(0, x.flush());
            x.put(1, 1);
            same(0, x.flush());
            x.found(2, 8);
            same(0, x.flush());
            for (int act = 1; act <= 7; act++) {
                x.put(1, act);
            }
            same(7, x.flush());
            same(0, x.flush());
            x.put(1, 8);
            same(1, x.flush());
            for (int act = 1; act <= 8; act++) {
                x.put(1, act);
            }
            same(0, x.flush());
        });
    }

    private static void checkpoint() {
        promise(12, "Makes a CHECKPOINT.", x -> {
            x.found(2, 8);
            x.put(1, 1);
            x.checkpoint();
            log(x, 0, 0);
            x.put(1, 2);
            same(1, x.crash());
            same(1, x.get(1));
            x.checkpoint();
            same(0, x.crash());
            same(1, x.get(1));
        });
        promise(12, "Returns how many ACTS were in the LOG.", x -> {
            same(0, x.checkpoint());
            x.put(1, 1);
            same(1, x.checkpoint());
            same(0, x.checkpoint());
            x.found(2, 8);
            for (int act = 1; act <= 60; act++) {
                x.put(1, act);
            }
            // Also those that are not FLUSHED.
            log(x, 60, 4);
            same(60, x.checkpoint());
            for (int act = 1; act <= 61; act++) {
                x.put(1, act);
            }
            same(1, x.checkpoint());
        });
    }

    private static void crash() {
        promise(13, "It CRASHES.", x -> {
            x.found(2, 2);
            x.put(1, 1);
            x.put(1, 2);
            x.put(1, 3);
            x.open(0);
            x.crash();
            same(2, x.get(1));
            same(1, x.ofFile(17));
            log(x, 2, 0);
            same(NONE, x.mark(0));
        });
        promise(13, "Returns how many ACTS are LOST.", x -> {
            same(0, x.crash());
            x.put(1, 1);
            same(0, x.crash());
            x.found(2, 8);
            same(0, x.crash());
            for (int act = 1; act <= 7; act++) {
                x.put(1, act);
            }
            same(7, x.crash());
            same(0, x.crash());
            for (int act = 1; act <= 9; act++) {
                x.put(1, act);
            }
            same(1, x.crash());
            same(8, x.get(1));
        });
    }

    private static void knock() {
        promise(14, "Knocks at the DESK.", x -> {
            long before = x.digest();
            x.knock();
            no(before == x.digest());
            same(1, x.ofFile(21));
            log(x, 0, 0);
        });
        promise(14, "Returns how many were REFUSED ever, with this.", x -> {
            same(1, x.knock());
            same(2, x.knock());
            x.found(3, 3);
            same(3, x.knock());
            x.put(1, 1);
            x.crash();
            same(4, x.knock());
            x.rehash(1, 1);
            x.checkpoint();
            same(5, x.knock());
        });
    }

    private static void get() {
        promise(15, "Returns its VALUE, without reading anything that counts; NONE without one.",
                x -> {
            same(NONE, x.get(0));
            x.put(0, 0);
            x.put(9999, 9999);
            same(0, x.get(0));
            same(9999, x.get(9999));
            same(NONE, x.get(100));
            x.drop(0);
            same(NONE, x.get(0));
            counts(x, 0, 0);
        });
        promise(15, KEY_THROWS, x -> {
            refuses(x, ARGUMENT, () -> x.get(-1), () -> x.get(10000), () -> x.get(LOWEST),
                    () -> x.get(HIGHEST));
            allows(() -> x.get(0), () -> x.get(9999));
        });
    }

    private static void ofKey() {
        promise(16, "- `what`: 0 HASH, 1 TURNED HASH, 2 ADDRESS,", x -> {
            same(0, x.ofKey(0, 0));
            same(0, x.ofKey(0, 1));
            same(0, x.ofKey(0, 2));
            // 15 is 0000001111, by the digits 11 of both fields.
            same(15, x.ofKey(9999, 0));
            same(0b1111000000, x.ofKey(9999, 1));
            same(1, x.ofKey(9999, 2));
            byLow(x, 2, 1);
            put(x, keys(0, 1, 9));
            same(4, x.ofKey(12, 2));
            same(1, x.ofKey(13, 2));
        });
        promise(16, "3 1 if the FILTER of that BUCKET has both, otherwise 0,", x -> {
            byLow(x, 2, 1);
            same(0, x.ofKey(35, 3));
            x.put(35, 1);
            same(1, x.ofKey(35, 3));
            same(0, x.ofKey(3, 3));
            same(0, x.ofKey(33, 3));
            same(1, x.ofKey(51 - 16, 3));
            same(0, x.ofKey(34, 3));
            x.drop(35);
            same(1, x.ofKey(135, 3));
        });
    }

    private static void ofKeyPlace() {
        promise(16, "4 the PAGE in which it lies (NONE),", x -> {
            byLow(x, 2, 1);
            same(NONE, x.ofKey(0, 4));
            put(x, 0, 2, 4);
            same(0, x.ofKey(0, 4));
            same(0, x.ofKey(2, 4));
            same(2, x.ofKey(4, 4));
            x.drop(0);
            same(0, x.ofKey(4, 4));
            same(NONE, x.ofKey(0, 4));
            same(NONE, x.ofKey(104, 4));
        });
        promise(16, "5 its place in that row, from 0 on (NONE)", x -> {
            byLow(x, 4, 1);
            same(NONE, x.ofKey(0, 5));
            put(x, 0, 2, 4, 6, 8);
            same(0, x.ofKey(0, 5));
            same(3, x.ofKey(6, 5));
            same(0, x.ofKey(8, 5));
            x.drop(2);
            same(1, x.ofKey(8, 5));
            same(NONE, x.ofKey(2, 5));
        });
        promise(16, "Returns that.", x -> {
            long before = x.digest();
            for (int what = 0; what <= 5; what++) {
                same(what > 3 ? NONE : 0, x.ofKey(0, what));
            }
            same(before, x.digest());
        });
        promise(16, ARGUMENT_IF + "key is not 0 to 9999, or what not 0 to 5", x -> {
            refuses(x, ARGUMENT, () -> x.ofKey(-1, 0), () -> x.ofKey(10000, 0),
                    () -> x.ofKey(0, -1), () -> x.ofKey(0, 6), () -> x.ofKey(LOWEST, 0),
                    () -> x.ofKey(HIGHEST, 0), () -> x.ofKey(0, LOWEST),
                    () -> x.ofKey(0, HIGHEST));
            allows(() -> x.ofKey(0, 0), () -> x.ofKey(9999, 5));
        });
    }

    private static void ofFile() {
        promise(17, "- `what`: 0 RECORDS, 1 BUCKETS, 2 LEVEL, 3 POINTER, 4 LOAD, 5 LOWER, 6 UPPER, "
                + "7 CAP, 8 CHOICE, 9 SEED,", x -> {
            x.found(4, 1);
            x.bounds(13, 57);
            x.rehash(341, 6);
            put(x, keys(0, 1, 13));
            int[] due = {13, 6, 1, 2, 54, 13, 57, 4, 341, 6};
            for (int what = 0; what < due.length; what++) {
                same(due[what], x.ofFile(what));
            }
            byLow(x, 2, 1);
            x.bounds(0, 50);
            put(x, keys(0, 1, 60));
            same(60, x.ofFile(0));
            same(59, x.ofFile(1));
            shape(x, 4, 27);
        });
        promise(17, "10 PAGES that are not FREE, 11 the length of the longest CHAIN,", x -> {
            same(2, x.ofFile(10));
            same(1, x.ofFile(11));
            byLow(x, 2, 1);
            put(x, 1, 3);
            same(1, x.ofFile(11));
            put(x, 5);
            same(3, x.ofFile(10));
            same(2, x.ofFile(11));
            put(x, 7, 9);
            same(5, x.ofFile(10));
            same(3, x.ofFile(11));
            x.drop(9);
            same(4, x.ofFile(10));
            same(2, x.ofFile(11));
        });
        promise(17, "Returns that.", x -> {
            long before = x.digest();
            int[] due = {0, 2, 0, 0, 0, 40, 80, 2, 682, 0, 2, 1, 0, 0, 0, 0, 0, 0, 0, 0, 1, 0};
            for (int what = 0; what <= 21; what++) {
                same(due[what], x.ofFile(what));
            }
            same(before, x.digest());
        });
        promise(17, ARGUMENT_IF + "what is not 0 to 21", x -> {
            refuses(x, ARGUMENT, () -> x.ofFile(-1), () -> x.ofFile(22), () -> x.ofFile(LOWEST),
                    () -> x.ofFile(HIGHEST));
            allows(() -> x.ofFile(0), () -> x.ofFile(21));
        });
    }

    private static void ofFileCounts() {
        promise(17, "12 SPLITS, 13 MERGES, 14 READS, 15 FALSE ones, 16 FORWARDS, 17 CRASHES,",
                x -> {
            byLow(x, 2, 1);
            put(x, keys(0, 1, 15));
            same(6, x.ofFile(12));
            x.bounds(40, 100);
            drop(x, keys(0, 1, 14));
            same(6, x.ofFile(12));
            same(6, x.ofFile(13));
            put(x, 16, 18);
            x.find(14);
            x.find(18);
            same(3, x.ofFile(14));
            x.find(114);
            x.find(1);
            same(5, x.ofFile(14));
            same(1, x.ofFile(15));
            same(0, x.ofFile(16));
            for (int crash = 1; crash <= 3; crash++) {
                x.crash();
                same(crash, x.ofFile(17));
            }
            put(x, 1, 3, 5, 7);
            same(4, x.ofFile(1));
            same(8, x.ofFile(12));
            same(6, x.ofFile(13));
            x.ask(0, 2);
            x.ask(1, 3);
            same(2, x.ofFile(16));
        });
        promise(17, "18 ACTS in the LOG, 19 of these those that are not FLUSHED, 20 GROUP, 21 how "
                + "many were REFUSED", x -> {
            x.found(2, 8);
            for (int act = 1; act <= 7; act++) {
                x.put(1, act);
                log(x, act, act);
            }
            x.put(1, 8);
            log(x, 8, 0);
            x.put(1, 9);
            log(x, 9, 1);
            same(8, x.ofFile(20));
            same(0, x.ofFile(21));
            x.knock();
            same(1, x.ofFile(21));
        });
    }

    private static void ofBucket() {
        promise(18, "- `what`: 0 how many RECORDS, 1 the length of its CHAIN, 2 its FILTER, 3 its "
                + "DEPTH, 4 the first PAGE, 5 the last one", x -> {
            byLow(x, 2, 1);
            put(x, 1, 3, 5, 7, 9);
            int[][] due = {{0, 1, 0, 1, 0, 0},
                {5, 3, 1 + 2 + 8 + 32 + 128 + 512, 0, 1, 3}, {0, 1, 0, 1, 4, 4}};
            for (int bucket = 0; bucket < due.length; bucket++) {
                for (int what = 0; what <= 5; what++) {
                    same(due[bucket][what], x.ofBucket(bucket, what));
                }
            }
        });
        promise(18, "Returns that.", x -> {
            long before = x.digest();
            int[] due = {0, 1, 0, 0, 1, 1};
            for (int what = 0; what <= 5; what++) {
                same(due[what], x.ofBucket(1, what));
            }
            same(before, x.digest());
        });
        promise(18, BUCKET_THROWS, x -> {
            refuses(x, INDEX, () -> x.ofBucket(-1, 0), () -> x.ofBucket(2, 0),
                    () -> x.ofBucket(LOWEST, 0), () -> x.ofBucket(HIGHEST, 0));
            allows(() -> x.ofBucket(0, 0), () -> x.ofBucket(1, 0));
            x.bounds(0, 50);
            put(x, keys(0, 1, 60));
            refuses(x, INDEX, () -> x.ofBucket(59, 0), () -> x.ofBucket(64, 0));
            allows(() -> x.ofBucket(58, 0));
            x.found(2, 1);
            refuses(x, INDEX, () -> x.ofBucket(2, 0));
        });
        promise(18, ARGUMENT_IF + "what is not 0 to 5", x -> {
            refuses(x, ARGUMENT, () -> x.ofBucket(0, -1), () -> x.ofBucket(0, 6),
                    () -> x.ofBucket(1, LOWEST), () -> x.ofBucket(1, HIGHEST));
            allows(() -> x.ofBucket(0, 0), () -> x.ofBucket(0, 5));
        });
    }

    private static void chain() {
        promise(19, "Returns its CHAIN: KEYS of a PAGE with \" \" between two, \"|\" between two "
                + "PAGES (\"17 4|230\");", x -> {
            byLow(x, 2, 1);
            put(x, 230);
            same("230", x.chain(0));
            put(x, 4);
            same("230 4", x.chain(0));
            put(x, 0);
            same("230 4|0", x.chain(0));
            put(x, 9998);
            same("230 4|0 9998", x.chain(0));
            drop(x, 230, 4);
            same("9998 0", x.chain(0));
            x.found(2, 1);
            x.rehash(1023, 0);
            put(x, 17, 4, 30);
            same("17 4|30", x.chain(0));
            byLow(x, 3, 1);
            put(x, 1, 3, 5, 7, 9, 11);
            same("1 3 5|7 9 11", x.chain(1));
        });
        promise(19, "\"-\", if it has none.", x -> {
            same("-", x.chain(0));
            same("-", x.chain(1));
            x.put(0, 0);
            same("0", x.chain(0));
            x.drop(0);
            same("-", x.chain(0));
        });
        promise(19, BUCKET_THROWS, x -> {
            refuses(x, INDEX, () -> x.chain(-1), () -> x.chain(2), () -> x.chain(LOWEST),
                    () -> x.chain(HIGHEST));
            allows(() -> x.chain(0), () -> x.chain(1));
            x.bounds(0, 50);
            put(x, keys(0, 1, 60));
            refuses(x, INDEX, () -> x.chain(59));
            allows(() -> x.chain(58));
        });
    }

    private static void ofPage() {
        promise(20, "- `what`: 0 the BUCKET in whose CHAIN it is (NONE, if it is FREE),", x -> {
            byLow(x, 2, 1);
            same(0, x.ofPage(0, 0));
            same(1, x.ofPage(1, 0));
            same(NONE, x.ofPage(2, 0));
            same(NONE, x.ofPage(95, 0));
            put(x, 1, 3, 5);
            same(1, x.ofPage(2, 0));
            x.drop(5);
            same(NONE, x.ofPage(2, 0));
            put(x, 2, 4, 6);
            // FREE again by a SPLIT, and taken by the new BUCKET
            same(2, x.ofPage(2, 0));
            same(NONE, x.ofPage(3, 0));
        });
        promise(20, "1 how many RECORDS are in it,", x -> {
            byLow(x, 4, 1);
            same(0, x.ofPage(0, 1));
            same(0, x.ofPage(95, 1));
            put(x, 0, 2, 4, 6);
            same(4, x.ofPage(0, 1));
            put(x, 8, 10);
            same(2, x.ofPage(2, 1));
            x.drop(0);
            same(4, x.ofPage(0, 1));
            same(1, x.ofPage(2, 1));
            x.drop(2);
            // FREE now
            same(0, x.ofPage(2, 1));
            byLow(x, 2, 1);
            put(x, 0, 2, 1, 3, 5);
            int page = x.ofBucket(2, 4);
            same(1, x.ofPage(page, 1));
            x.bounds(40, 100);
            drop(x, 1, 3, 5);
            same("0 2", x.chain(0));
            same(NONE, x.ofPage(page, 0));
            same(0, x.ofPage(page, 1));
        });
    }

    private static void ofPageChain() {
        promise(20, "2 the PAGE behind it (NONE)", x -> {
            byLow(x, 2, 1);
            same(NONE, x.ofPage(0, 2));
            same(NONE, x.ofPage(95, 2));
            put(x, 1, 3, 5, 7, 9);
            same(2, x.ofPage(1, 2));
            same(3, x.ofPage(2, 2));
            same(NONE, x.ofPage(3, 2));
            x.drop(9);
            same(NONE, x.ofPage(2, 2));
            drop(x, 7, 5);
            same(NONE, x.ofPage(1, 2));
            same(NONE, x.ofPage(2, 2));
            byLow(x, 2, 1);
            put(x, 4, 12, 20, 1, 3, 5, 7, 9, 11);
            same("4 12|20", x.chain(4));
            int first = x.ofBucket(4, 4);
            int second = x.ofPage(first, 2);
            same(second, x.ofBucket(4, 5));
            drop(x, 1, 3, 5, 7, 9);
            x.bounds(31, 100);
            x.drop(11);
            same("4 12|20", x.chain(0));
            same(first, x.ofPage(0, 2));
            same(NONE, x.ofPage(first, 2));
            same(NONE, x.ofPage(second, 2));
        });
    }

    private static void ofPageThrows() {
        promise(20, "Returns that.", x -> {
            long before = x.digest();
            int[] due = {1, 0, NONE};
            for (int what = 0; what <= 2; what++) {
                same(due[what], x.ofPage(1, what));
            }
            same(before, x.digest());
        });
        promise(20, INDEX_IF + "page is not 0 to 95", x -> {
            refuses(x, INDEX, () -> x.ofPage(-1, 0), () -> x.ofPage(96, 0),
                    () -> x.ofPage(LOWEST, 0), () -> x.ofPage(HIGHEST, 0));
            allows(() -> x.ofPage(0, 0), () -> x.ofPage(95, 2));
        });
        promise(20, ARGUMENT_IF + "what is not 0 to 2", x -> {
            refuses(x, ARGUMENT, () -> x.ofPage(0, -1), () -> x.ofPage(0, 3),
                    () -> x.ofPage(95, LOWEST), () -> x.ofPage(95, HIGHEST));
            allows(() -> x.ofPage(0, 0), () -> x.ofPage(0, 2));
        });
    }

    private static void mark() {
        promise(21, "Returns its MARK, a KEY; -2, if that is ahead of all; NONE, if it is CLOSED.",
                x -> {
            same(NONE, x.mark(0));
            x.open(0);
            same(-2, x.mark(0));
            same(NONE, x.mark(1));
            x.next(0);
            same(-2, x.mark(0));
            put(x, 0, 9999);
            x.next(0);
            same(0, x.mark(0));
            x.next(0);
            same(9999, x.mark(0));
            x.next(0);
            x.drop(9999);
            same(9999, x.mark(0));
            x.crash();
            same(NONE, x.mark(0));
        });
        promise(21, CURSOR_THROWS, x -> {
            refuses(x, INDEX, () -> x.mark(-1), () -> x.mark(3), () -> x.mark(LOWEST),
                    () -> x.mark(HIGHEST));
            allows(() -> x.mark(0), () -> x.mark(2));
        });
    }

    private static void ofClient() {
        promise(22, "- `what`: 0 LEVEL of its IMAGE, 1 POINTER of it,", x -> {
            byLow(x, 2, 1);
            put(x, keys(0, 1, 15));
            image(x, 2, 0, 0);
            x.ask(2, 4);
            image(x, 2, 1, 1);
            x.ask(2, 5);
            image(x, 2, 1, 2);
            x.ask(2, 6);
            image(x, 2, 1, 3);
            x.ask(2, 7);
            image(x, 2, 2, 0);
            image(x, 1, 0, 0);
        });
        promise(22, "2 by how many BUCKETS the file has more than by that (can be below 0)", x -> {
            byLow(x, 2, 1);
            same(0, x.ofClient(0, 2));
            put(x, keys(0, 1, 7));
            same(2, x.ofClient(0, 2));
            x.ask(0, 3);
            same(0, x.ofClient(0, 2));
            same(2, x.ofClient(1, 2));
            x.bounds(40, 100);
            drop(x, keys(0, 1, 6));
            same(-2, x.ofClient(0, 2));
            same(0, x.ofClient(1, 2));
        });
        promise(22, "Returns that.", x -> {
            long before = x.digest();
            for (int what = 0; what <= 2; what++) {
                same(0, x.ofClient(0, what));
            }
            same(before, x.digest());
        });
        promise(22, CLIENT_THROWS, x -> {
            refuses(x, INDEX, () -> x.ofClient(-1, 0), () -> x.ofClient(3, 0),
                    () -> x.ofClient(LOWEST, 0), () -> x.ofClient(HIGHEST, 0));
            allows(() -> x.ofClient(0, 0), () -> x.ofClient(2, 2));
        });
        promise(22, ARGUMENT_IF + "what is not 0 to 2", x -> {
            refuses(x, ARGUMENT, () -> x.ofClient(0, -1), () -> x.ofClient(0, 3),
                    () -> x.ofClient(2, LOWEST), () -> x.ofClient(2, HIGHEST));
            allows(() -> x.ofClient(0, 0), () -> x.ofClient(0, 2));
        });
    }

    private static void seek() {
        promise(23, "Returns the nth KEY in ORDER of RECORDS with that field; NONE, if there are "
                + "not so many.", x -> {
            same(NONE, x.seek(true, 0, 0));
            byLow(x, 2, 1);
            put(x, 3, 2, 1, 0, 200, 100, 9999);
            int[] high = {0, 2, 1, 3, NONE};
            for (int nth = 0; nth < high.length; nth++) {
                same(high[nth], x.seek(true, 0, nth));
            }
            int[] low = {0, 100, 200, NONE};
            for (int nth = 0; nth < low.length; nth++) {
                same(low[nth], x.seek(false, 0, nth));
            }
            same(9999, x.seek(true, 99, 0));
            same(9999, x.seek(false, 99, 0));
            same(NONE, x.seek(true, 99, 1));
            same(NONE, x.seek(false, 98, 0));
            same(NONE, x.seek(true, 0, HIGHEST));
            x.found(4, 1);
            put(x, keys(0, 1, 60));
            yes(x.seek(true, 0, 59) != NONE);
            same(NONE, x.seek(true, 0, 60));
        });
        promise(23, ARGUMENT_IF + "value is not 0 to 99, or nth below 0", x -> {
            refuses(x, ARGUMENT, () -> x.seek(true, -1, 0), () -> x.seek(true, 100, 0),
                    () -> x.seek(false, -1, 0), () -> x.seek(false, 100, 0),
                    () -> x.seek(true, 0, -1), () -> x.seek(false, LOWEST, 0),
                    () -> x.seek(false, HIGHEST, 0), () -> x.seek(false, 0, LOWEST));
            allows(() -> x.seek(true, 0, 0), () -> x.seek(false, 99, HIGHEST));
        });
    }

    private static void visits() {
        promise(24, "Returns VISITS.", x -> {
            // The first CHOICE has the lowest digit of LOW, and the next one of HIGH.
            same(1, x.visits(false, 0));
            same(2, x.visits(true, 99));
            x.bounds(0, 50);
            put(x, keys(0, 1, 7));
            same(7, x.ofFile(1));
            // 000, 001, 010, 11, 100, 101 and 110
            same(4, x.visits(true, 0));
            same(3, x.visits(true, 1));
            same(2, x.visits(false, 0));
            same(2, x.visits(false, 99));
        });
        promise(24, ARGUMENT_IF + "value is not 0 to 99", x -> {
            refuses(x, ARGUMENT, () -> x.visits(true, -1), () -> x.visits(true, 100),
                    () -> x.visits(false, -1), () -> x.visits(false, 100),
                    () -> x.visits(false, LOWEST), () -> x.visits(true, HIGHEST));
            allows(() -> x.visits(true, 0), () -> x.visits(false, 0), () -> x.visits(true, 99),
                    () -> x.visits(false, 99));
        });
    }

    private static void would() {
        promise(25, "- `what`: 0 how many PAGES would not be FREE behind a REHASH by these, 1 the "
                + "length of the longest CHAIN then, 2 VISITS for the HIGH 0, 3 VISITS for the LOW "
                + "0", x -> {
            same(2, x.would(0, 0, 0));
            byLow(x, 2, 1);
            put(x, 0, 1, 2, 3, 4);
            // All five have the HASH 0, in 3 BUCKETS; by LOW there are 0 4, 1 3 and 2.
            int[][] due = {{5, 3, 1, 3}, {3, 1, 3, 1}};
            for (int what = 0; what <= 3; what++) {
                same(due[0][what], x.would(1023, 0, what));
                same(due[1][what], x.would(0, 0, what));
            }
            // By SEED 9 these are in BUCKET 1, which is not SPLIT.
            same(5, x.would(1023, 9, 0));
            // By SEED 1 there are 0, 2 and 4 in BUCKET 1, 1 in 0, and 3 in 2.
            same(4, x.would(0, 1, 0));
            same(2, x.would(0, 1, 1));
            byLow(x, 2, 1);
            x.bounds(0, 50);
            put(x, keys(0, 1, 60));
            same(88, x.would(1023, 0, 0));
            same(30, x.would(1023, 0, 1));
            same(59, x.would(1023, 0, 3));
        });
        promise(25, "Returns that.", x -> {
            byLow(x, 2, 3);
            put(x, keys(0, 1, 8));
            x.open(1);
            x.next(1);
            long before = x.digest();
            for (int what = 0; what <= 3; what++) {
                x.would(1023, 9, what);
                x.would(0, 0, what);
            }
            same(before, x.digest());
            same(0, x.ofKey(100, 0));
            same(1000, x.get(0));
            same(2, x.crash());
        });
        promise(25, ARGUMENT_IF + "choice is not 0 to 1023, seed not 0 to 9, or what not 0 to 3",
                x -> {
            refuses(x, ARGUMENT, () -> x.would(-1, 0, 0), () -> x.would(1024, 0, 0),
                    () -> x.would(0, -1, 0), () -> x.would(0, 10, 0), () -> x.would(0, 0, -1),
                    () -> x.would(0, 0, 4), () -> x.would(LOWEST, 0, 0),
                    () -> x.would(HIGHEST, 0, 0), () -> x.would(0, LOWEST, 0),
                    () -> x.would(0, HIGHEST, 0), () -> x.would(0, 0, LOWEST),
                    () -> x.would(0, 0, HIGHEST));
            allows(() -> x.would(0, 0, 0), () -> x.would(1023, 9, 3), () -> x.would(0, 9, 3),
                    () -> x.would(1023, 0, 0));
        });
    }

    private static void crashed() {
        promise(26, "Returns with NONE: how many RECORDS there would be behind a CRASH now, less "
                + "how many there are;", x -> {
            same(0, x.crashed(NONE));
            x.put(9, 9);
            same(0, x.crashed(NONE));
            x.found(4, 8);
            same(0, x.crashed(NONE));
            put(x, 1, 2, 3);
            same(-3, x.crashed(NONE));
            x.flush();
            same(0, x.crashed(NONE));
            drop(x, 1, 2);
            same(2, x.crashed(NONE));
            x.checkpoint();
            same(0, x.crashed(NONE));
            put(x, 4);
            x.drop(3);
            same(0, x.crashed(NONE));
            same(0, x.ofFile(17));
        });
        promise(26, "otherwise the VALUE of that KEY then (NONE, if there would be none).", x -> {
            x.found(4, 8);
            x.put(0, 0);
            same(NONE, x.crashed(0));
            x.flush();
            same(0, x.crashed(0));
            x.put(0, 9999);
            same(0, x.crashed(0));
            x.drop(0);
            same(0, x.crashed(0));
            x.flush();
            same(NONE, x.crashed(0));
            same(NONE, x.crashed(9999));
            x.put(9999, 9999);
            x.checkpoint();
            same(9999, x.crashed(9999));
            // By the HASH as it would be, too.
            x.rehash(1023, 9);
            same(9999, x.crashed(9999));
            same(1023, x.ofFile(8));
        });
        promise(26, ARGUMENT_IF + "key is not -1 to 9999", x -> {
            refuses(x, ARGUMENT, () -> x.crashed(-2), () -> x.crashed(10000),
                    () -> x.crashed(LOWEST), () -> x.crashed(HIGHEST));
            allows(() -> x.crashed(-1), () -> x.crashed(0), () -> x.crashed(9999));
        });
    }

    /** No call makes a file that is not sound: each condition is looked at by other calls, too. */
    private static void isSound() {
        promise(27, "Returns whether all of this is so: each RECORD lies in the BUCKET by its "
                + "ADDRESS, once;", x -> {
            byLow(x, 2, 1);
            put(x, keys(0, 7, 14));
            yes(x.isSound());
            for (int key = 0; key < 98; key += 7) {
                same(x.ofKey(key, 2), x.ofPage(x.ofKey(key, 4), 0));
            }
        });
        promise(27, "no PAGE has more than CAP; none but the last one of a CHAIN has room, and "
                + "none but the first one is empty;", x -> {
            byLow(x, 3, 1);
            yes(x.isSound());
            put(x, 0, 2, 4);
            yes(x.isSound());
            put(x, 6);
            yes(x.isSound());
            same(3, x.ofPage(0, 1));
            same(1, x.ofPage(2, 1));
            x.drop(0);
            yes(x.isSound());
            drop(x, 2, 4, 6);
            same(0, x.ofPage(0, 1));
            yes(x.isSound());
        });
        promise(27, "each PAGE is FREE or in one CHAIN;", x -> {
            byLow(x, 2, 1);
            x.bounds(0, 50);
            put(x, keys(0, 100, 60));
            same(88, x.ofFile(10));
            yes(x.isSound());
            x.bounds(40, 50);
            for (int key = 0; key < 6000; key += 100) {
                x.drop(key);
                yes(x.isSound());
            }
            same(2, x.ofFile(10));
        });
    }

    private static void isSoundStates() {
        promise(27, "FILTERS have both of each RECORD;", x -> {
            byLow(x, 2, 1);
            put(x, 35, 16, 99, 0, 64);
            yes(x.isSound());
            for (int key : new int[] {35, 16, 99, 0, 64}) {
                same(1, x.ofKey(key, 3));
            }
            x.bounds(40, 100);
            drop(x, 35, 0);
            // More in a FILTER than that is sound.
            same(1, x.ofKey(35, 3));
            yes(x.isSound());
        });
        promise(27, "POINTER is below BASE;", x -> {
            byLow(x, 2, 1);
            put(x, keys(0, 1, 6));
            shape(x, 0, 1);
            yes(x.isSound());
            put(x, 6);
            shape(x, 1, 0);
            yes(x.isSound());
            put(x, keys(7, 1, 6));
            shape(x, 1, 3);
            yes(x.isSound());
        });
        promise(27, "ACTS that are not FLUSHED are fewer than GROUP.", x -> {
            x.found(2, 8);
            for (int act = 1; act <= 17; act++) {
                x.put(act, act);
                yes(x.isSound());
                yes(x.ofFile(19) < 8);
            }
            x.found(2, 1);
            x.put(1, 1);
            yes(x.isSound());
        });
    }

    private static void digest() {
        promise(28, "Computes a checksum.", x -> {
            long before = x.digest();
            same(before, x.digest());
            x.put(1, 1);
            no(before == x.digest());
        });
        promise(28, "A number d starts with 7307; then d becomes d * 31 + v, which wraps around as "
                + "a 64-bit integer,", x -> {
            same(bigDigest(x).longValue(), x.digest());
            yes(bigDigest(x).bitLength() > 64);
            // It wraps to below 0.
            same(-7257572334373883844L, x.digest());
        });
        promise(28, "Returns d.", x -> {
            byLow(x, 2, 5);
            put(x, keys(0, 1, 9));
            x.open(0);
            x.next(0);
            x.ask(1, 7);
            x.find(100);
            x.knock();
            same(bigDigest(x).longValue(), x.digest());
            x.drop(0);
            same(bigDigest(x).longValue(), x.digest());
        });
        promise(28, "Computes a checksum.", x -> {
            x.found(4, 1);
            x.bounds(0, 100);
            put(x, keys(0, 101, 60));
            same(60, x.ofFile(0));
            same(bigDigest(x).longValue(), x.digest());
        });
        promise(28, "for each v in this order: ofFile() of 0 to 21;", x -> {
            x.found(3, 7);
            x.knock();
            x.crash();
            x.bounds(1, 99);
            same(bigDigest(x).longValue(), x.digest());
        });
        promise(28, "BUCKET by BUCKET ofBucket() of 0 to 5, and how many signs chain() has;", x -> {
            byLow(x, 2, 1);
            // 9, 10, 99, 100, 999 and 1000: keys of one to four signs
            put(x, 9, 10, 99, 100, 999, 1000, 0);
            same(bigDigest(x).longValue(), x.digest());
            drop(x, 9, 99, 999);
            // "-" has one sign.
            same("-", x.chain(1));
            same(bigDigest(x).longValue(), x.digest());
        });
    }

    private static void digestParts() {
        promise(28, "RECORD by RECORD, BUCKET by BUCKET, each by its CHAIN, the KEY, then the "
                + "VALUE;", x -> {
            byLow(x, 2, 1);
            x.put(1, 0);
            x.put(4, 9999);
            x.put(2, 3);
            x.put(0, 7);
            x.drop(4);
            same("0 2", x.chain(0));
            same(bigDigest(x).longValue(), x.digest());
        });
        promise(28, "CURSOR by CURSOR mark();", x -> {
            x.put(5, 1);
            x.open(0);
            x.open(2);
            x.next(2);
            same(bigDigest(x).longValue(), x.digest());
        });
        promise(28, "CLIENT by CLIENT ofClient() of 0 to 2;", x -> {
            byLow(x, 2, 1);
            put(x, keys(0, 1, 7));
            x.ask(1, 2);
            x.ask(2, 3);
            same(bigDigest(x).longValue(), x.digest());
            x.bounds(40, 100);
            drop(x, keys(0, 1, 7));
            // By how many BUCKETS it has more is below 0.
            same(-2, x.ofClient(2, 2));
            same(bigDigest(x).longValue(), x.digest());
        });
        promise(28, "visits() of HIGH 0, then of LOW 0;", x -> {
            same(2, x.visits(true, 0));
            same(1, x.visits(false, 0));
            same(bigDigest(x).longValue(), x.digest());
        });
        promise(28, "crashed() of NONE;", x -> {
            x.found(2, 8);
            x.put(1, 1);
            same(-1, x.crashed(NONE));
            same(bigDigest(x).longValue(), x.digest());
            x.flush();
            x.drop(1);
            same(1, x.crashed(NONE));
            same(bigDigest(x).longValue(), x.digest());
        });
        promise(28, "1 if isSound(), otherwise 0.", x -> {
            yes(x.isSound());
            long without = bigDigest(x).subtract(BigInteger.ONE).longValue();
            same(without + 1, x.digest());
        });
    }

    /** The checksum by the other calls, without any wrapping around. */
    private static BigInteger bigDigest(Splitpointer x) {
        BigInteger d = BigInteger.valueOf(7307);
        for (int what = 0; what <= 21; what++) {
            d = with(d, x.ofFile(what));
        }
        StringBuilder chains = new StringBuilder();
        int buckets = x.ofFile(1);
        for (int bucket = 0; bucket < buckets; bucket++) {
            for (int what = 0; what <= 5; what++) {
                d = with(d, x.ofBucket(bucket, what));
            }
            String chain = x.chain(bucket);
            d = with(d, chain.length());
            chains.append(chain.equals("-") ? "" : chain.replace('|', ' ') + " ");
        }
        for (String key : chains.toString().split(" ")) {
            if (!key.isEmpty()) {
                d = with(d, Integer.parseInt(key));
                d = with(d, x.get(Integer.parseInt(key)));
            }
        }
        for (int cursor = 0; cursor <= 2; cursor++) {
            d = with(d, x.mark(cursor));
        }
        for (int client = 0; client <= 2; client++) {
            for (int what = 0; what <= 2; what++) {
                d = with(d, x.ofClient(client, what));
            }
        }
        d = with(d, x.visits(true, 0));
        d = with(d, x.visits(false, 0));
        d = with(d, x.crashed(NONE));
        return with(d, x.isSound() ? 1 : 0);
    }

    private static BigInteger with(BigInteger d, int v) {
        return d.multiply(BigInteger.valueOf(31)).add(BigInteger.valueOf(v));
    }
}
