import java.io.IOException;

/**
 * A test for each sentence of the description, at the boundary that it names. With byLow, HASH is
 * LOW, so that of a KEY below 100 it is the KEY.
 */
public final class DescriptionTest extends Sentences {
    public static void main(String[] args) throws IOException {
        calls();
        numbers();
        records();
        choices();
        hashes();
        buckets();
        pages();
        pagesTaken();
        appending();
        putting();
        dropping();
        droppingMerges();
        splitting();
        merging();
        rehashing();
        rehashingAtFirst();
        filters();
        filtersAnew();
        finding();
        orders();
        cursors();
        nexts();
        closing();
        images();
        asking();
        forwarding();
        learning();
        acts();
        groups();
        checkpoints();
        crashing();
        crashingLog();
        crashingCounts();
        founding();
        foundingGoesOn();
        fields();
        exceptions();
        finish();
    }

    private static void calls() {
        opening("An object is used for at most 512 calls after it has been made;", x -> {
            for (int call = 1; call < 512; call++) {
                x.put(1, call);
            }
            // 8 times 60, and 31.
            same(31, x.ofFile(18));
            Splitpointer knocked = new Splitpointer();
            for (int call = 1; call < 512; call++) {
                knocked.knock();
            }
            same(512, knocked.knock());
        });
    }

    private static void numbers() {
        of("Whole numbers.", x -> {
            byLow(x, 3, 1);
            put(x, 0, 1, 2, 3, 4);
            // 83.33
            same(83, x.ofFile(4));
        });
        of("What is divided is divided towards 0.", x -> {
            byLow(x, 3, 1);
            put(x, 0);
            // 16.67
            same(16, x.ofFile(4));
            x.bounds(0, 83);
            put(x, 1, 2, 3, 4);
            // 83.33 is not above 83
            same(2, x.ofFile(1));
        });
        of("NONE is -1.", x -> {
            same(-1, x.get(0));
            same(-1, x.mark(0));
            same(-1, x.ofPage(95, 0));
            same(-1, x.seek(true, 0, 0));
            same(0, x.crashed(-1));
        });
        of("A set is the sum of 2^k for each number k.", x -> {
            same(2 + 8 + 32 + 128 + 512, x.ofFile(8));
            byLow(x, 2, 1);
            put(x, 35);
            same((1 << 35 % 16) + (1 << 35 / 16), x.ofBucket(1, 2));
        });
        of("X by X is by rising numbers.", x -> {
            byLow(x, 2, 1);
            put(x, 3, 1, 2, 0);
            x.rehash(1023, 0);
            same("2 0|3 1", x.chain(0));
        });
        of("XOR is that of binary digits.", x -> {
            x.rehash(0, 1);
            // 0110001101 and 0001100011
            same(0b0111101110, x.ofKey(99, 0));
        });
    }

    private static void records() {
        of("RECORDS: at most 60 at a time", x -> {
            byLow(x, 4, 1);
            put(x, keys(0, 1, 59));
            same(-1, x.put(59, 1));
            same(60, x.ofFile(0));
            refuses(x, STATE, () -> x.put(60, 1));
            same(60, x.ofFile(0));
            x.drop(30);
            same(59, x.ofFile(0));
            same(-1, x.put(60, 1));
            refuses(x, STATE, () -> x.put(30, 1));
        });
        of(", each a KEY (0 to 9999) and a VALUE (0 to 9999)", x -> {
            same(-1, x.put(0, 0));
            same(-1, x.put(9999, 9999));
            same(0, x.get(0));
            same(9999, x.get(9999));
            refuses(x, ARGUMENT, () -> x.put(-1, 0), () -> x.put(10000, 0), () -> x.put(0, -1),
                    () -> x.put(0, 10000));
        });
        of("; of one KEY there is one at most.", x -> {
            byLow(x, 2, 1);
            put(x, 0, 2, 4);
            x.put(4, 1);
            x.put(0, 2);
            x.put(0, 3);
            same(3, x.ofFile(0));
            same("0 2|4", x.chain(0));
            same(3, x.drop(0));
            same(-1, x.drop(0));
        });
        of("HIGH of a KEY is KEY / 100, LOW is KEY modulo 100.", x -> {
            int[] someKeys = {0, 99, 100, 199, 9900, 9999};
            int[] high = {0, 0, 1, 1, 99, 99};
            int[] low = {0, 99, 0, 99, 0, 99};
            x.rehash(1023, 0);
            for (int i = 0; i < someKeys.length; i++) {
                same(high[i], x.ofKey(someKeys[i], 0));
            }
            x.rehash(0, 0);
            for (int i = 0; i < someKeys.length; i++) {
                same(low[i], x.ofKey(someKeys[i], 0));
            }
            put(x, 99, 100);
            same(99, x.seek(true, 0, 0));
            same(-1, x.seek(true, 0, 1));
            same(100, x.seek(true, 1, 0));
            same(100, x.seek(false, 0, 0));
            same(99, x.seek(false, 99, 0));
        });
    }

    private static void choices() {
        of("A CHOICE is a set of the BITS 0 to 9 (those with 2, 8, 32, 128 and 512 at first: 682)",
                x -> {
            same(682, x.ofFile(8));
            same(682, x.ofKey(3100, 0));
            same(341, x.ofKey(31, 0));
            x.rehash(0, 0);
            same(0, x.ofFile(8));
            x.rehash(1023, 0);
            same(1023, x.ofFile(8));
            refuses(x, ARGUMENT, () -> x.rehash(-1, 0), () -> x.rehash(1024, 0));
            for (int bit = 0; bit <= 9; bit++) {
                x.rehash(1 << bit, 0);
                same(1 << bit, x.ofFile(8));
                same(1 << bit, x.ofKey(100, 0));
            }
        });
        of(", a SEED is 0 to 9 (0 at first).", x -> {
            same(0, x.ofFile(9));
            x.rehash(682, 9);
            same(9, x.ofFile(9));
            refuses(x, ARGUMENT, () -> x.rehash(682, -1), () -> x.rehash(682, 10));
            x.rehash(682, 0);
            same(0, x.ofFile(9));
        });
    }

    private static void hashes() {
        of("HASH of a KEY (0 to 1023):", x -> {
            same(0, x.ofKey(0, 0));
            x.rehash(0, 5);
            // 397 * 5 modulo 1024 is 1111000001, and 62 is 0000111110.
            same(1023, x.ofKey(62, 0));
            x.rehash(682, 9);
            for (int key = 0; key < 10000; key += 33) {
                int hash = x.ofKey(key, 0);
                yes(hash >= 0 && hash <= 1023);
            }
        });
        of("BIT by BIT from 0 to 9, a BIT that is in the CHOICE is the next binary digit of HIGH "
                + "(the lowest one first), any other one the next one of LOW;", x -> {
            // 99 is 1100011
            x.rehash(1, 0);
            same(0b11000111, x.ofKey(9999, 0));
            same(1, x.ofKey(100, 0));
            same(0, x.ofKey(200, 0));
            x.rehash(512, 0);
            same(0b1001100011, x.ofKey(9999, 0));
            same(512, x.ofKey(100, 0));
            same(0, x.ofKey(200, 0));
            x.rehash(3, 0);
            same(3, x.ofKey(300, 0));
            same(0, x.ofKey(400, 0));
            same(4, x.ofKey(1, 0));
            x.rehash(0, 0);
            same(99, x.ofKey(9999, 0));
            x.rehash(1023, 0);
            same(99, x.ofKey(9998, 0));
        });
        of("that number XOR (397 * SEED) modulo 1024.", x -> {
            int[] seeds = {0, 397, 794, 167, 564, 961, 334, 731, 104, 501};
            for (int seed = 0; seed <= 9; seed++) {
                x.rehash(1023, seed);
                same(seeds[seed], x.ofKey(99, 0));
            }
            // 501 is 0111110101, and 99 is 0001100011.
            same(0b0110010110, x.ofKey(9900, 0));
        });
    }

    private static void buckets() {
        of("LEVEL and POINTER are 0 at first.", x -> {
            shape(x, 0, 0);
            put(x, keys(0, 1, 20));
            yes(x.ofFile(2) > 0);
            x.found(2, 1);
            shape(x, 0, 0);
        });
        of("BASE is 2 * 2^LEVEL.", x -> {
            int[] bases = {2, 4, 8, 16, 32};
            x.bounds(0, 50);
            for (int key = 0; key < 60; key++) {
                x.put(key, 1);
                same(bases[x.ofFile(2)], x.ofFile(1) - x.ofFile(3));
            }
            same(4, x.ofFile(2));
        });
        of("There are BASE + POINTER BUCKETS, numbered from 0.", x -> {
            byLow(x, 2, 1);
            same(2, x.ofFile(1));
            for (int due = 2; due <= 6; due++) {
                int beyond = due;
                same(due, x.ofFile(1));
                allows(() -> x.chain(0), () -> x.chain(beyond - 1));
                refuses(x, INDEX, () -> x.chain(-1), () -> x.chain(beyond));
                put(x, x.ofFile(0), x.ofFile(0) + 1);
                while (x.ofFile(1) == due) {
                    put(x, x.ofFile(0));
                }
            }
        });
        of("ADDRESS of a HASH: HASH modulo BASE, if that is no less than POINTER, otherwise HASH "
                + "modulo (2 * BASE).", x -> {
            byLow(x, 2, 1);
            addresses(x, 0, 1, 0, 1, 0, 1, 0, 1);
            put(x, keys(0, 1, 5));
            shape(x, 0, 1);
            addresses(x, 0, 1, 2, 1, 0, 1, 2, 1);
            put(x, 5, 6);
            shape(x, 1, 0);
            addresses(x, 0, 1, 2, 3, 0, 1, 2, 3);
            put(x, keys(7, 1, 6));
            shape(x, 1, 3);
            addresses(x, 0, 1, 2, 3, 4, 5, 6, 3, 0, 1, 2, 3, 4, 5, 6, 3);
        });
    }

    private static void addresses(Splitpointer x, int... due) {
        for (int hash = 0; hash < due.length; hash++) {
            same(due[hash], x.ofKey(hash, 2));
        }
    }

    private static void pages() {
        of("PAGES are 0 to 95, each FREE, or in the CHAIN of one BUCKET,", x -> {
            same(0, x.ofPage(0, 0));
            same(-1, x.ofPage(95, 0));
            refuses(x, INDEX, () -> x.ofPage(-1, 0), () -> x.ofPage(96, 0));
            byLow(x, 2, 1);
            x.bounds(0, 50);
            put(x, keys(0, 100, 60));
            // All 60 are in BUCKET 0, and 58 BUCKETS are empty.
            same(30, x.ofFile(11));
            same(88, x.ofFile(10));
            int used = 0;
            for (int page = 0; page <= 95; page++) {
                used += x.ofPage(page, 0) == NONE ? 0 : 1;
            }
            same(88, used);
            same("5900", x.chain(0).substring(x.chain(0).length() - 4));
        });
        of("with a row of RECORDS, CAP of them at most (2 to 4; 2 at first).", x -> {
            same(2, x.ofFile(7));
            refuses(x, ARGUMENT, () -> x.found(1, 1), () -> x.found(5, 1));
            String[] full = {"0 2", "0 2 4", "0 2 4 6"};
            for (int cap = 2; cap <= 4; cap++) {
                byLow(x, cap, 1);
                put(x, keys(0, 2, cap));
                same(full[cap - 2], x.chain(0));
                put(x, 8);
                same(full[cap - 2] + "|8", x.chain(0));
                same(cap, x.ofPage(0, 1));
            }
        });
        of("Each BUCKET has a CHAIN of one PAGE or more.", x -> {
            same(1, x.ofBucket(0, 1));
            same(1, x.ofBucket(1, 1));
            byLow(x, 2, 1);
            put(x, 1, 3, 5, 7, 9);
            same(1, x.ofBucket(2, 1));
            same(3, x.ofBucket(1, 1));
            drop(x, 1, 3, 5, 7, 9);
            same(1, x.ofBucket(1, 1));
            same(0, x.ofBucket(1, 0));
            same(1, x.ofBucket(1, 4));
            same(1, x.ofBucket(1, 5));
            same(1, x.ofPage(1, 0));
        });
    }

    private static void pagesTaken() {
        of("Whenever a PAGE is taken, it is the FREE one with the smallest number.", x -> {
            byLow(x, 2, 1);
            put(x, 1, 3, 5, 7, 9, 0);
            // BUCKET 1 has PAGES 1, 2 and 3, and BUCKET 2, which is new, has 4.
            same(4, x.ofBucket(2, 4));
            drop(x, 9, 7, 5);
            put(x, 4, 8, 12);
            same(2, x.ofKey(12, 4));
            put(x, 5);
            same(3, x.ofBucket(3, 4));
        });
        of("At first BUCKET 0 has PAGE 0, and BUCKET 1 PAGE 1.", x -> {
            for (int bucket = 0; bucket < 2; bucket++) {
                same(bucket, x.ofBucket(bucket, 4));
                same(bucket, x.ofBucket(bucket, 5));
                same(bucket, x.ofPage(bucket, 0));
            }
            same(NONE, x.ofPage(2, 0));
        });
    }

    private static void appending() {
        of("To APPEND a RECORD to a BUCKET: behind all in the last PAGE of its CHAIN, if that has "
                + "fewer than CAP;", x -> {
            byLow(x, 4, 1);
            put(x, 6, 2, 4, 0);
            same("6 2 4 0", x.chain(0));
            same(1, x.ofBucket(0, 1));
            same(3, x.ofKey(0, 5));
            put(x, 10, 8);
            same("6 2 4 0|10 8", x.chain(0));
        });
        of("otherwise a PAGE is taken, and comes to the end of the CHAIN with it.", x -> {
            byLow(x, 3, 1);
            put(x, 0, 2, 4);
            same(2, x.ofFile(10));
            put(x, 6);
            same(3, x.ofFile(10));
            same("0 2 4|6", x.chain(0));
            same(2, x.ofPage(0, 2));
            same(2, x.ofBucket(0, 5));
            same(0, x.ofBucket(0, 4));
            byLow(x, 2, 1);
            put(x, 0, 100, 200, 300, 400);
            same("0 100|200 300|400", x.chain(0));
        });
        of("LOAD is 100 * RECORDS / (BUCKETS * CAP).", x -> {
            same(0, x.ofFile(4));
            byLow(x, 4, 1);
            put(x, 0, 1, 2);
            same(37, x.ofFile(4));
            put(x, 3, 4, 5, 6, 7);
            same(100, x.ofFile(4));
            put(x, 8);
            same(75, x.ofFile(4));
            x.found(2, 1);
            x.bounds(0, 50);
            put(x, keys(0, 1, 60));
            same(59, x.ofFile(1));
            same(50, x.ofFile(4));
        });
        of("BOUNDS are LOWER (0 to 40; 40 at first) and UPPER (50 to 100; 80 at first).", x -> {
            same(40, x.ofFile(5));
            same(80, x.ofFile(6));
            x.bounds(0, 100);
            same(0, x.ofFile(5));
            same(100, x.ofFile(6));
            x.bounds(40, 50);
            same(40, x.ofFile(5));
            same(50, x.ofFile(6));
            refuses(x, ARGUMENT, () -> x.bounds(-1, 80), () -> x.bounds(41, 80),
                    () -> x.bounds(40, 49), () -> x.bounds(40, 101));
        });
    }

    private static void putting() {
        of("To PUT: if there is a RECORD of that KEY, it has that VALUE from then on, in its "
                + "place.", x -> {
            byLow(x, 2, 1);
            put(x, 0, 2, 4);
            x.bounds(0, 50);
            same(1002, x.put(2, 77));
            same(77, x.get(2));
            same("0 2|4", x.chain(0));
            // LOAD is 75, but nothing has come to the file.
            same(2, x.ofFile(1));
            x.found(4, 1);
            put(x, keys(0, 1, 60));
            same(1000, x.put(0, 1));
            same(60, x.ofFile(0));
        });
        of("Otherwise it is APPENDED to the BUCKET by its ADDRESS;", x -> {
            byLow(x, 2, 1);
            put(x, 4, 3, 0, 1);
            same("4 0", x.chain(0));
            same("3 1", x.chain(1));
            put(x, 2, 6);
            same("4 0", x.chain(0));
            same("2 6", x.chain(2));
        });
        of("then, as long as LOAD is above UPPER, a SPLIT.", x -> {
            byLow(x, 2, 1);
            put(x, 0, 1, 2, 3);
            // LOAD is UPPER.
            same(2, x.ofFile(1));
            put(x, 4);
            same(3, x.ofFile(1));
            byLow(x, 2, 1);
            put(x, 0, 1, 2, 3);
            x.bounds(0, 50);
            same(2, x.ofFile(1));
            put(x, 4);
            // 125, 83, 62 and 50
            same(5, x.ofFile(1));
            same(50, x.ofFile(4));
            same(3, x.ofFile(12));
        });
    }

    private static void dropping() {
        of("To DROP: the RECORD is taken out; the last one of the last PAGE of that CHAIN comes "
                + "into its place (if it is not that itself).", x -> {
            byLow(x, 2, 1);
            put(x, 0, 2, 4, 6);
            x.drop(0);
            same("6 2|4", x.chain(0));
            same(1006, x.get(6));
            x.drop(4);
            same("6 2", x.chain(0));
            x.drop(2);
            same("6", x.chain(0));
            x.drop(6);
            same("-", x.chain(0));
            same(0, x.ofFile(0));
        });
        of("A PAGE that has nothing then, and is not the first one of its CHAIN, is FREE.", x -> {
            byLow(x, 2, 1);
            put(x, 0, 2, 4, 6);
            same(0, x.ofPage(2, 0));
            x.drop(0);
            // One is left in it.
            same(0, x.ofPage(2, 0));
            x.drop(6);
            same(NONE, x.ofPage(2, 0));
            same(NONE, x.ofPage(0, 2));
            same(0, x.ofBucket(0, 5));
            drop(x, 2, 4);
            same(0, x.ofPage(0, 0));
            same(2, x.ofFile(10));
            byLow(x, 2, 1);
            put(x, 0, 100, 200, 300, 400);
            int last = x.ofBucket(0, 5);
            x.drop(0);
            same("400 100|200 300", x.chain(0));
            same(NONE, x.ofPage(last, 0));
        });
    }

    private static void droppingMerges() {
        of("Then, as long as LOAD is below LOWER and there are more than 2 BUCKETS, a MERGE.",
                x -> {
            byLow(x, 2, 1);
            put(x, keys(0, 1, 9));
            same(5, x.ofFile(1));
            x.bounds(40, 100);
            drop(x, 0, 1, 2, 3, 4);
            // 4 of 10: LOAD is LOWER.
            same(5, x.ofFile(1));
            x.drop(5);
            // 30, 37 and 50
            same(3, x.ofFile(1));
            same(2, x.ofFile(13));
            x.drop(6);
            // 33 and 50
            same(2, x.ofFile(1));
            drop(x, 7, 8);
            same(2, x.ofFile(1));
            same(3, x.ofFile(13));
            same(0, x.ofFile(4));
            byLow(x, 2, 1);
            put(x, 0, 1, 2, 3, 4);
            drop(x, 0, 1, 2, 3);
            x.bounds(40, 100);
            // LOAD is 16, but nothing is DROPPED.
            same(NONE, x.drop(9));
            x.put(4, 4);
            same(3, x.ofFile(1));
        });
    }

    private static void splitting() {
        of("SPLIT: the RECORDS of BUCKET POINTER, by its CHAIN, are taken; all its PAGES but the "
                + "first one are FREE.", x -> {
            byLow(x, 2, 1);
            put(x, 2, 6, 10, 14);
            same(2, x.ofBucket(0, 5));
            put(x, 1);
            same("-", x.chain(0));
            same(0, x.ofBucket(0, 4));
            same(0, x.ofBucket(0, 5));
            same(NONE, x.ofPage(0, 2));
            same("2 6|10 14", x.chain(2));
            // PAGE 2 was FREE.
            same(2, x.ofBucket(2, 4));
            same(4, x.ofFile(10));
            put(x, 3, 5);
            // BUCKET 1 is next.
            same("1 5", x.chain(1));
            same("3", x.chain(3));
            same("2 6|10 14", x.chain(2));
        });
        of("A new BUCKET (the number is BASE + POINTER) takes a PAGE.", x -> {
            byLow(x, 2, 1);
            put(x, 2, 6, 10, 14);
            refuses(x, INDEX, () -> x.ofBucket(2, 4));
            put(x, 1);
            // PAGE 2 was of BUCKET 0 before.
            same(2, x.ofBucket(2, 4));
            same(3, x.ofBucket(2, 5));
            same(2, x.ofPage(2, 0));
            put(x, 3, 5);
            same(4, x.ofFile(1));
            same(3, x.ofPage(x.ofBucket(3, 4), 0));
            put(x, 7, 9);
            same(5, x.ofFile(1));
            same(4, x.ofPage(x.ofBucket(4, 4), 0));
        });
        of("POINTER is 1 more; if it is BASE, LEVEL is 1 more, and POINTER 0.", x -> {
            byLow(x, 2, 1);
            int[][] due = {{0, 1}, {1, 0}, {1, 1}, {1, 2}, {1, 3}, {2, 0}, {2, 1}};
            put(x, 0, 1, 2);
            for (int i = 0; i < due.length; i++) {
                put(x, 3 + 2 * i, 4 + 2 * i);
                shape(x, due[i][0], due[i][1]);
            }
        });
        of("Then each of these RECORDS is APPENDED by its ADDRESS.", x -> {
            byLow(x, 2, 1);
            put(x, 1, 5, 3, 7, 9, 11, 13);
            shape(x, 1, 0);
            same("1 5|9 13", x.chain(1));
            same("3 7|11", x.chain(3));
            same(0, x.ofKey(9, 5));
            yes(x.isSound());
        });
    }

    private static void merging() {
        of("MERGE: if POINTER is 0, LEVEL is 1 less, and POINTER is BASE by that.", x -> {
            fiveBuckets(x);
            x.bounds(31, 100);
            x.drop(3);
            shape(x, 1, 0);
            x.bounds(26, 100);
            x.drop(2);
            shape(x, 0, 1);
        });
        of("POINTER is 1 less.", x -> {
            fiveBuckets(x);
            shape(x, 1, 1);
            x.bounds(31, 100);
            x.drop(3);
            shape(x, 1, 0);
            same(1, x.ofFile(13));
            x.bounds(26, 100);
            x.drop(2);
            x.bounds(17, 100);
            x.drop(1);
            shape(x, 0, 0);
            same(3, x.ofFile(13));
        });
        of("The RECORDS of the last BUCKET, by its CHAIN, are APPENDED to BUCKET POINTER, after "
                + "all PAGES of that last BUCKET are FREE; it is no more.", x -> {
            byLow(x, 2, 1);
            put(x, 0, 8, 4, 1, 3, 5, 7, 9, 11);
            drop(x, 1, 3, 5, 7, 9);
            same("0 8", x.chain(0));
            same("4", x.chain(4));
            same(3, x.ofBucket(4, 4));
            same(5, x.ofFile(10));
            x.bounds(31, 100);
            x.drop(11);
            same("0 8|4", x.chain(0));
            // PAGE 3 was FREE again, and is taken.
            same(3, x.ofKey(4, 4));
            same(0, x.ofPage(3, 0));
            same(5, x.ofFile(10));
            same(1004, x.get(4));
            refuses(x, INDEX, () -> x.chain(4));
        });
    }

    /** 0, 1, 2 and 3 in 5 BUCKETS: LOAD is 40. */
    private static void fiveBuckets(Splitpointer x) {
        byLow(x, 2, 1);
        put(x, keys(0, 1, 9));
        drop(x, 4, 5, 6, 7, 8);
    }

    private static void rehashing() {
        of("To REHASH by a CHOICE and a SEED: all RECORDS are taken, BUCKET by BUCKET, each by its "
                + "CHAIN;", x -> {
            byLow(x, 2, 1);
            put(x, 5, 4, 2, 0);
            x.drop(4);
            same("0 2", x.chain(0));
            x.rehash(1023, 0);
            same("0 2|5", x.chain(0));
            same(3, x.ofFile(0));
            byLow(x, 2, 1);
            same(2, x.rehash(1023, 9));
            same(0, x.ofFile(0));
            byLow(x, 4, 1);
            put(x, keys(0, 1, 60));
            x.rehash(1023, 0);
            same(60, x.ofFile(0));
            same(1059, x.get(59));
        });
        of("then they are PUT in that order by the new HASH (with SPLITS, but no MERGES).", x -> {
            byLow(x, 2, 1);
            put(x, 0, 1, 2, 3);
            x.bounds(40, 70);
            x.rehash(0, 1);
            // 100, and 66 by one SPLIT; the lowest digits of 397 are 01.
            same(1, x.ofFile(12));
            same(0, x.ofFile(13));
            same("1", x.chain(0));
            same("0 2", x.chain(1));
            same("3", x.chain(2));
            same(397, x.ofKey(0, 0));
            byLow(x, 2, 1);
            put(x, 0);
            x.bounds(40, 70);
            x.rehash(0, 0);
            // LOAD is 25.
            same(0, x.ofFile(13));
        });
    }

    private static void rehashingAtFirst() {
        of("all is as at first (2 BUCKETS, LEVEL, POINTER, PAGES), but CAP, BOUNDS, IMAGES, and "
                + "what was counted, stay;", x -> {
            byLow(x, 2, 1);
            put(x, keys(0, 1, 15));
            x.ask(0, 7);
            x.find(0);
            x.bounds(40, 100);
            drop(x, keys(0, 1, 10));
            // BUCKET 1 is empty, but its FILTER still lets 9 through.
            x.find(9);
            x.crash();
            x.knock();
            int merges = x.ofFile(13);
            yes(merges > 0);
            counts(x, 2, 1);
            x.bounds(7, 77);
            drop(x, keys(10, 1, 4));
            x.rehash(0, 0);
            same(2, x.ofFile(1));
            shape(x, 0, 0);
            same(2, x.ofFile(10));
            same(0, x.ofBucket(0, 4));
            same(1, x.ofBucket(1, 4));
            same("14", x.chain(0));
            same(2, x.ofFile(7));
            same(7, x.ofFile(5));
            same(77, x.ofFile(6));
            image(x, 0, 1, 2);
            same(6, x.ofFile(12));
            same(merges, x.ofFile(13));
            counts(x, 2, 1);
            same(2, x.ofFile(16));
            same(1, x.ofFile(17));
            same(1, x.ofFile(21));
        });
    }

    private static void filters() {
        of("Each BUCKET has a FILTER, a set of 0 to 15 (empty, as the BUCKET is new).", x -> {
            same(0, x.ofBucket(0, 2));
            same(0, x.ofBucket(1, 2));
            x.put(0, 1);
            same(1, x.ofBucket(0, 2));
            x.found(2, 1);
            x.rehash(0, 5);
            x.put(62, 1);
            same(1 << 15, x.ofBucket(1, 2));
            byLow(x, 2, 1);
            put(x, 1, 3, 5, 7, 0);
            same(0, x.ofBucket(2, 2));
            put(x, 2);
            same(5, x.ofBucket(2, 2));
            x.bounds(40, 100);
            drop(x, 1, 3, 5, 2);
            same(2, x.ofFile(1));
            put(x, 9, 11, 13);
            // BUCKET 2 is new again.
            same(3, x.ofFile(1));
            same(0, x.ofBucket(2, 2));
        });
        of("As a RECORD is APPENDED to it, HASH modulo 16 and HASH / 16 modulo 16 come into it.",
                x -> {
            // By the first CHOICE the HASH of 16 is 256, that of 20 is 272.
            x.put(16, 1);
            same(1, x.ofBucket(0, 2));
            x.put(20, 1);
            same(3, x.ofBucket(0, 2));
            byLow(x, 2, 1);
            x.put(15, 1);
            same((1 << 15) + 1, x.ofBucket(1, 2));
            x.put(16, 1);
            same(1 + 2, x.ofBucket(0, 2));
            x.put(35, 1);
            same((1 << 15) + 1 + 8 + 4, x.ofBucket(1, 2));
        });
        of("A DROP leaves it as it is.", x -> {
            byLow(x, 2, 1);
            put(x, 35, 2, 4);
            drop(x, 35, 2);
            same(8 + 4, x.ofBucket(1, 2));
            same(0, x.ofBucket(1, 0));
            same(1 + 4 + 16, x.ofBucket(0, 2));
            same(1, x.ofKey(35, 3));
        });
    }

    private static void filtersAnew() {
        of("By a SPLIT both BUCKETS, by a MERGE that which is left, have it anew, of the RECORDS "
                + "that they have then.", x -> {
            byLow(x, 2, 1);
            put(x, 8, 10, 9);
            drop(x, 8, 10, 9);
            put(x, 0, 2, 4, 6);
            same(1 + 4 + 16 + 64 + 256 + 1024, x.ofBucket(0, 2));
            put(x, 1);
            same(1 + 16, x.ofBucket(0, 2));
            same(1 + 4 + 64, x.ofBucket(2, 2));
            // BUCKET 1 is not SPLIT.
            same(1 + 2 + 512, x.ofBucket(1, 2));
            drop(x, 4, 6);
            x.bounds(40, 100);
            x.drop(1);
            same("0 2", x.chain(0));
            same(1 + 4, x.ofBucket(0, 2));
            same(1 + 2 + 512, x.ofBucket(1, 2));
        });
    }

    private static void finding() {
        of("To FIND a KEY: if the FILTER of its BUCKET has not both, it is a MISS, and nothing is "
                + "read.", x -> {
            byLow(x, 2, 1);
            same(NONE, x.find(1));
            x.put(35, 1);
            // The FILTER has 3 and 2: of 3 it has 3 and not 0, of 33 2 and not 1, of 1 none.
            same(NONE, x.find(3));
            same(NONE, x.find(33));
            same(NONE, x.find(1));
            counts(x, 0, 0);
            same(1, x.find(35));
            counts(x, 1, 0);
        });
        of("Otherwise PAGE by PAGE of the CHAIN, in its order, is read (counted; that in which it "
                + "is found, too), until it is found.", x -> {
            byLow(x, 2, 1);
            put(x, 0, 100, 200, 300, 400);
            same(1000, x.find(0));
            counts(x, 1, 0);
            same(1100, x.find(100));
            counts(x, 2, 0);
            same(1200, x.find(200));
            counts(x, 4, 0);
            same(1400, x.find(400));
            counts(x, 7, 0);
        });
        of("If it is in none, it is a MISS, and a FALSE one (counted).", x -> {
            byLow(x, 2, 1);
            put(x, 0, 100, 200, 300, 400);
            same(NONE, x.find(500));
            counts(x, 3, 1);
            x.put(0, 0);
            same(0, x.find(0));
            counts(x, 4, 1);
            drop(x, 0, 100, 200, 300, 400);
            // The first PAGE is empty, and read.
            same(NONE, x.find(0));
            counts(x, 5, 2);
        });
    }

    private static void orders() {
        of("ORDER of RECORDS: by rising TURNED HASH (its ten binary digits the other way round), "
                + "of the same one by rising KEY.", x -> {
            byLow(x, 2, 1);
            same(0, x.ofKey(0, 1));
            same(512, x.ofKey(1, 1));
            same(256, x.ofKey(2, 1));
            same(0b1100011000, x.ofKey(99, 1));
            put(x, 3, 203, 1, 2, 103, 0);
            int[] due = {0, 2, 1, 3, 103, 203, NONE};
            x.open(0);
            for (int key : due) {
                same(key, x.next(0));
            }
            x.found(2, 1);
            x.rehash(0, 5);
            same(1023, x.ofKey(62, 1));
        });
    }

    private static void cursors() {
        of("CURSORS 0 to 2, each CLOSED (at first), or with a MARK.", x -> {
            for (int cursor = 0; cursor <= 2; cursor++) {
                int closed = cursor;
                same(NONE, x.mark(cursor));
                refuses(x, STATE, () -> x.next(closed));
            }
            x.put(7, 1);
            x.open(2);
            x.next(2);
            same(7, x.mark(2));
            same(NONE, x.mark(0));
            same(NONE, x.mark(1));
            refuses(x, INDEX, () -> x.open(3), () -> x.open(-1));
        });
        of("To OPEN one: its MARK is ahead of all.", x -> {
            byLow(x, 2, 1);
            put(x, 0, 1);
            x.open(1);
            same(-2, x.mark(1));
            // KEY 0 with the HASH 0 is behind it.
            same(0, x.next(1));
            x.next(1);
            x.open(1);
            same(-2, x.mark(1));
            same(0, x.next(1));
        });
    }

    private static void nexts() {
        of("NEXT of it: the first RECORD in ORDER that is behind the MARK, by the HASH as it is "
                + "then;", x -> {
            byLow(x, 2, 1);
            put(x, 4, 2, 1);
            x.open(0);
            same(4, x.next(0));
            same(2, x.next(0));
            // 0 is ahead of the MARK, 102 and 6 are behind it.
            put(x, 0, 102, 6);
            x.drop(2);
            same(102, x.next(0));
            same(6, x.next(0));
            same(1, x.next(0));
            same(NONE, x.next(0));
        });
        of("that KEY is the MARK then;", x -> {
            byLow(x, 2, 1);
            put(x, 0, 9999);
            x.open(0);
            x.next(0);
            same(0, x.mark(0));
            x.next(0);
            same(9999, x.mark(0));
        });
        of("NONE, if there is none (it stays).", x -> {
            byLow(x, 2, 1);
            x.open(0);
            same(NONE, x.next(0));
            same(-2, x.mark(0));
            x.put(1, 1);
            same(1, x.next(0));
            same(NONE, x.next(0));
            same(NONE, x.next(0));
            same(1, x.mark(0));
            put(x, 101);
            same(101, x.next(0));
        });
    }

    private static void closing() {
        of("SPLITS and MERGES do not matter to it;", x -> {
            byLow(x, 2, 1);
            put(x, 0, 2, 1, 3);
            x.open(0);
            same(0, x.next(0));
            same(2, x.next(0));
            put(x, 16, 32, 48, 64, 80);
            same(5, x.ofFile(1));
            same(2, x.mark(0));
            same(1, x.next(0));
            x.bounds(40, 100);
            drop(x, 16, 32, 48, 64, 80);
            same(5, x.ofFile(1));
            x.drop(0);
            same(3, x.ofFile(1));
            same(1, x.mark(0));
            same(3, x.next(0));
            same(NONE, x.next(0));
        });
        of("by a REHASH, a CRASH, or if the file is FOUNDED, all are CLOSED.", x -> {
            Call[] closers = {() -> x.rehash(682, 0), () -> x.crash(), () -> x.found(2, 1)};
            for (Call closer : closers) {
                for (int cursor = 0; cursor <= 2; cursor++) {
                    yes(x.open(cursor));
                }
                x.put(5, 1);
                x.next(1);
                x.flush();
                x.checkpoint();
                same(5, x.mark(1));
                closer.go();
                for (int cursor = 0; cursor <= 2; cursor++) {
                    same(NONE, x.mark(cursor));
                }
                refuses(x, STATE, () -> x.next(1));
            }
        });
    }

    private static void images() {
        of("CLIENTS 0 to 2, each with an IMAGE: a LEVEL and a POINTER (0 and 0 at first).", x -> {
            for (int client = 0; client <= 2; client++) {
                image(x, client, 0, 0);
            }
            refuses(x, INDEX, () -> x.ofClient(-1, 0), () -> x.ofClient(3, 0));
            sevenBuckets(x);
            x.ask(2, 7);
            x.ask(1, 6);
            image(x, 0, 0, 0);
            image(x, 1, 1, 1);
            image(x, 2, 1, 2);
        });
        of("The DEPTH of a BUCKET b: LEVEL + 1, if b is below POINTER, or BASE or more; otherwise "
                + "LEVEL.", x -> {
            byLow(x, 2, 1);
            depths(x, 0, 0);
            put(x, keys(0, 1, 5));
            depths(x, 1, 0, 1);
            put(x, 5, 6);
            depths(x, 1, 1, 1, 1);
            put(x, keys(7, 1, 6));
            shape(x, 1, 3);
            depths(x, 2, 2, 2, 1, 2, 2, 2);
            put(x, 13, 14);
            depths(x, 2, 2, 2, 2, 2, 2, 2, 2);
        });
    }

    private static void depths(Splitpointer x, int... due) {
        same(due.length, x.ofFile(1));
        for (int bucket = 0; bucket < due.length; bucket++) {
            same(due[bucket], x.ofBucket(bucket, 3));
        }
    }

    /** LEVEL 1 and POINTER 3, with the KEYS 0 to 12. */
    private static void sevenBuckets(Splitpointer x) {
        byLow(x, 2, 1);
        put(x, keys(0, 1, 13));
        shape(x, 1, 3);
    }

    private static void asking() {
        of("To ASK for a KEY with the HASH h: the CLIENT goes to the BUCKET a that is the ADDRESS "
                + "by its IMAGE.", x -> {
            sevenBuckets(x);
            same(1, x.ask(0, 7));
            image(x, 0, 1, 2);
            // By that IMAGE 6 is in 2 (no less than POINTER), and 5 in 5.
            same(1, x.ask(0, 6));
            image(x, 0, 1, 3);
            same(0, x.ask(0, 5));
            same(0, x.ask(0, 6));
            same(0, x.ask(0, 7));
        });
        of("If there is none such, its IMAGE becomes LEVEL and POINTER of the file: 3 is told.",
                x -> {
            sevenBuckets(x);
            for (int client = 0; client <= 1; client++) {
                x.ask(client, 7);
                x.ask(client, 6);
                image(x, client, 1, 3);
            }
            drop(x, keys(0, 1, 7));
            x.bounds(36, 100);
            x.drop(12);
            shape(x, 1, 2);
            // BUCKET 5 is the last one, and BUCKET 6 is none.
            same(0, x.ask(1, 5));
            image(x, 1, 1, 3);
            same(3, x.ask(0, 6));
            image(x, 0, 1, 2);
            same(0, x.ask(0, 6));
        });
        of("Otherwise, beginning with b as a: c is h modulo (2 * 2^(DEPTH of b)).", x -> {
            sevenBuckets(x);
            same(1, x.ask(0, 12));
            image(x, 0, 1, 1);
            same(0, x.ask(1, 16));
            // DEPTH of 3 is 1: 11 is there.
            same(1, x.ask(2, 11));
            image(x, 2, 1, 2);
            same(0, x.ask(2, 15));
        });
        of("If c is b, it is there.", x -> {
            sevenBuckets(x);
            same(0, x.ask(0, 0));
            same(0, x.ask(0, 8));
            same(0, x.ask(0, 1));
            image(x, 0, 0, 0);
            same(0, x.ofFile(16));
        });
    }

    private static void forwarding() {
        of("Otherwise, with d as h modulo 2^(DEPTH of b) (if DEPTH is 1 or more): if d is above b "
                + "and below c, c is d; it is FORWARDED to c, which is b then.", x -> {
            sevenBuckets(x);
            // d is above b, and below c: from 0 to 2 and to 6; from 1 to 3, and not to 7.
            same(2, x.ask(0, 6));
            same(1, x.ask(1, 7));
            // d is c: from 0 to 2. d is b: from 0 to 4.
            same(1, x.ask(2, 2));
            x.found(2, 1);
            sevenBuckets(x);
            same(1, x.ask(0, 4));
            x.found(2, 1);
            byLow(x, 2, 1);
            put(x, keys(0, 1, 5));
            // DEPTH of 1 is 0.
            same(0, x.ask(0, 3));
            same(1, x.ask(0, 2));
        });
        of("How often that was is told, and counted (FORWARDS; of 3 nothing is).", x -> {
            sevenBuckets(x);
            same(0, x.ask(0, 0));
            same(0, x.ofFile(16));
            same(2, x.ask(0, 6));
            same(2, x.ofFile(16));
            same(0, x.ask(0, 7));
            same(2, x.ofFile(16));
            same(1, x.ask(0, 6));
            same(3, x.ofFile(16));
            x.bounds(40, 100);
            drop(x, keys(0, 1, 12));
            same(2, x.ofFile(1));
            same(3, x.ask(0, 6));
            same(3, x.ofFile(16));
        });
    }

    private static void learning() {
        of("If it was FORWARDED at all, with j as the DEPTH of a: its IMAGE has LEVEL j - 1 and "
                + "POINTER a + 1; if that POINTER is 2 * 2^(j - 1) or more, LEVEL j and POINTER 0.",
                x -> {
            byLow(x, 2, 1);
            put(x, keys(0, 1, 7));
            shape(x, 1, 0);
            x.ask(0, 2);
            image(x, 0, 0, 1);
            x.ask(0, 3);
            image(x, 0, 1, 0);
            put(x, keys(7, 1, 8));
            shape(x, 2, 0);
            same(0, x.ask(0, 1));
            image(x, 0, 1, 0);
            x.ask(0, 6);
            image(x, 0, 1, 3);
            x.ask(0, 7);
            image(x, 0, 2, 0);
            // Two times FORWARDED: a is 0, and its DEPTH 2.
            same(2, x.ask(1, 6));
            image(x, 1, 1, 1);
            x.ask(2, 3);
            image(x, 2, 1, 2);
            x.found(2, 1);
            sevenBuckets(x);
            // DEPTH of 0 is LEVEL + 1.
            x.ask(0, 4);
            image(x, 0, 1, 1);
        });
    }

    private static void acts() {
        of("ACTS are PUT, DROP (of a RECORD that is there), REHASH, and telling BOUNDS.", x -> {
            x.put(1, 1);
            log(x, 1, 0);
            x.put(1, 1);
            log(x, 2, 0);
            x.drop(2);
            log(x, 2, 0);
            x.drop(1);
            log(x, 3, 0);
            x.drop(1);
            log(x, 3, 0);
            x.rehash(682, 0);
            log(x, 4, 0);
            x.bounds(40, 80);
            log(x, 5, 0);
        });
        of("Each is done, and comes to the LOG (nothing else does).", x -> {
            x.found(2, 8);
            x.put(1, 1);
            same(1, x.get(1));
            Call[] others = {() -> x.find(1), () -> x.find(2), () -> x.open(0), () -> x.next(0),
                () -> x.ask(0, 1), () -> x.knock(), () -> x.get(1), () -> x.ofKey(1, 0),
                () -> x.ofFile(0), () -> x.ofBucket(0, 0), () -> x.chain(0), () -> x.ofPage(0, 0),
                () -> x.mark(0), () -> x.ofClient(0, 0), () -> x.seek(true, 0, 0),
                () -> x.visits(true, 0), () -> x.would(1, 1, 1), () -> x.crashed(-1),
                () -> x.isSound(), () -> x.digest(), () -> x.drop(2)};
            for (Call other : others) {
                other.go();
                log(x, 1, 1);
            }
            refuses(x, ARGUMENT, () -> x.put(-1, 1), () -> x.drop(-1), () -> x.rehash(-1, 0),
                    () -> x.bounds(-1, 80));
            log(x, 1, 1);
            x.flush();
            log(x, 1, 0);
            x.crash();
            log(x, 1, 0);
        });
    }

    private static void groups() {
        of("As soon as there are GROUP (1 to 8; 1 at first) ACTS in the LOG that are not FLUSHED, "
                + "all are.", x -> {
            same(1, x.ofFile(20));
            for (int group = 1; group <= 8; group++) {
                x.found(2, group);
                for (int act = 1; act < group; act++) {
                    x.put(act, act);
                    log(x, act, act);
                }
                x.bounds(40, 80);
                log(x, group, 0);
                same(0, x.crash());
            }
            x.found(2, 3);
            put(x, 1, 2);
            x.flush();
            put(x, 3, 4);
            log(x, 4, 2);
            put(x, 5);
            log(x, 5, 0);
            refuses(x, ARGUMENT, () -> x.found(2, 0), () -> x.found(2, 9));
        });
    }

    private static void checkpoints() {
        of("A CHECKPOINT keeps the file as it is, whole; the LOG is empty then.", x -> {
            x.found(3, 8);
            put(x, keys(0, 1, 6));
            x.bounds(11, 66);
            x.rehash(5, 5);
            put(x, 77);
            x.checkpoint();
            log(x, 0, 0);
            long before = x.digest();
            int splits = x.ofFile(12);
            yes(splits > 0);
            x.rehash(6, 6);
            x.bounds(12, 67);
            same(2, x.crash());
            same(5, x.ofFile(8));
            same(5, x.ofFile(9));
            same(11, x.ofFile(5));
            same(66, x.ofFile(6));
            same(7, x.ofFile(0));
            same(splits, x.ofFile(12));
            log(x, 0, 0);
            no(before == x.digest());
            same(0, x.checkpoint());
        });
        of("If there are 60 ACTS in the LOG, a CHECKPOINT is made ahead of the next one.", x -> {
            x.found(2, 8);
            for (int act = 1; act <= 59; act++) {
                x.put(1, act);
            }
            log(x, 59, 3);
            x.put(1, 60);
            log(x, 60, 4);
            same(NONE, x.drop(2));
            refuses(x, ARGUMENT, () -> x.put(10000, 1));
            log(x, 60, 4);
            same(56, x.crashed(1));
            x.put(1, 61);
            log(x, 1, 1);
            same(60, x.crashed(1));
            same(1, x.crash());
            same(60, x.get(1));
            x.found(2, 1);
            Call[] kinds = {() -> x.put(1, 1), () -> x.bounds(40, 80), () -> x.rehash(1, 1),
                () -> x.drop(1)};
            for (Call kind : kinds) {
                for (int act = x.ofFile(18); act < 60; act++) {
                    x.put(1, 2);
                }
                x.crash();
                log(x, 60, 0);
                kind.go();
                log(x, 1, 0);
            }
        });
    }

    private static void crashing() {
        of("CRASH: the file becomes as at the last CHECKPOINT (as it was FOUNDED, without one),",
                x -> {
            same(0, x.crash());
            same(0, x.ofFile(0));
            same(2, x.ofFile(7));
            x.found(3, 8);
            put(x, 1, 2);
            x.bounds(1, 51);
            x.rehash(3, 3);
            same(4, x.crash());
            same(0, x.ofFile(0));
            same(3, x.ofFile(7));
            same(8, x.ofFile(20));
            same(40, x.ofFile(5));
            same(682, x.ofFile(8));
            put(x, 1, 2);
            x.checkpoint();
            drop(x, 1);
            x.checkpoint();
            drop(x, 2);
            same(1, x.crash());
            same(NONE, x.get(1));
            same(1002, x.get(2));
        });
        of("then all FLUSHED ACTS are done again in their order; others are LOST.", x -> {
            byLow(x, 2, 7);
            x.put(0, 1);
            x.put(0, 2);
            put(x, 2, 4);
            x.drop(0);
            x.bounds(3, 93);
            x.put(0, 3);
            same("4 2|0", x.chain(0));
            x.put(0, 4);
            x.drop(2);
            x.bounds(4, 94);
            same(3, x.crash());
            same("4 2|0", x.chain(0));
            same(3, x.get(0));
            same(3, x.ofFile(5));
            same(93, x.ofFile(6));
            same(0, x.crash());
            same("4 2|0", x.chain(0));
        });
    }

    private static void crashingLog() {
        of("The LOG has the FLUSHED ones then; IMAGES stay.", x -> {
            sevenBuckets(x);
            x.ask(0, 7);
            x.found(2, 3);
            put(x, keys(0, 1, 11));
            log(x, 11, 2);
            same(1, x.ask(0, 10));
            int level = x.ofClient(0, 0);
            int pointer = x.ofClient(0, 1);
            yes(level + pointer > 0);
            x.crash();
            log(x, 9, 0);
            image(x, 0, level, pointer);
            put(x, 20);
            log(x, 10, 1);
            same(10, x.checkpoint());
        });
    }

    private static void crashingCounts() {
        of("SPLITS and MERGES are counted in the file (a CRASH takes them back, too, and counts "
                + "those that come again);", x -> {
            byLow(x, 2, 7);
            put(x, keys(0, 1, 7));
            same(2, x.ofFile(12));
            put(x, 7, 8);
            same(3, x.ofFile(12));
            same(2, x.crash());
            same(2, x.ofFile(12));
            x.checkpoint();
            x.bounds(40, 100);
            drop(x, keys(0, 1, 6));
            same(2, x.ofFile(13));
            same(0, x.crash());
            same(2, x.ofFile(13));
            same(2, x.ofFile(12));
            x.checkpoint();
            put(x, keys(0, 1, 5));
            same(3, x.ofFile(12));
            same(5, x.crash());
            same(2, x.ofFile(12));
        });
        of("READS, FALSE ones, FORWARDS and CRASHES go on.", x -> {
            byLow(x, 2, 8);
            put(x, keys(0, 1, 7));
            x.find(0);
            same(NONE, x.find(104));
            counts(x, 2, 1);
            x.ask(0, 2);
            same(7, x.crash());
            counts(x, 2, 1);
            same(1, x.ofFile(16));
            same(1, x.ofFile(17));
            x.crash();
            same(2, x.ofFile(17));
        });
    }

    private static void founding() {
        of("To FOUND the file: it is empty, with a CAP and a GROUP, all else of 1, 2 and 6 as at "
                + "first;", x -> {
            byLow(x, 2, 8);
            put(x, keys(0, 1, 9));
            x.bounds(39, 60);
            drop(x, keys(0, 1, 8));
            x.put(1, 1);
            yes(x.ofFile(13) > 0);
            x.rehash(3, 7);
            x.found(4, 5);
            int[] due = {0, 2, 0, 0, 0, 40, 80, 4, 682, 0, 2, 1, 0, 0};
            for (int what = 0; what < due.length; what++) {
                same(due[what], x.ofFile(what));
            }
            log(x, 0, 0);
            same(5, x.ofFile(20));
            same(0, x.ofBucket(0, 2));
            same("-", x.chain(1));
            // There is no CHECKPOINT any more.
            x.put(1, 1);
            same(1, x.crash());
            same(0, x.ofFile(0));
            same(4, x.ofFile(7));
        });
        of("IMAGES are 0 and 0;", x -> {
            sevenBuckets(x);
            for (int client = 0; client <= 2; client++) {
                x.ask(client, 7);
                image(x, client, 1, 2);
            }
            x.found(2, 1);
            for (int client = 0; client <= 2; client++) {
                image(x, client, 0, 0);
            }
        });
    }

    private static void foundingGoesOn() {
        of("READS, FALSE ones, FORWARDS, CRASHES, and how many were REFUSED go on.", x -> {
            sevenBuckets(x);
            x.find(0);
            x.find(104);
            x.ask(0, 6);
            x.crash();
            x.knock();
            x.found(3, 2);
            counts(x, 2, 1);
            same(2, x.ofFile(16));
            same(1, x.ofFile(17));
            same(1, x.ofFile(21));
        });
        of("The DESK has a KEY of its own: who knocks without it is REFUSED (counted).", x -> {
            same(0, x.ofFile(21));
            x.put(1, 1);
            for (int knocks = 1; knocks <= 100; knocks++) {
                same(knocks, x.knock());
            }
            same(100, x.ofFile(21));
        });
    }

    private static void fields() {
        of("A question for all RECORDS with a HIGH (or with a LOW): a BUCKET with the number b has "
                + "to be looked into, if no binary digit of b, of the lowest (DEPTH of b) + 1 "
                + "ones, that comes from that field by the CHOICE, is another one than that of "
                + "such a KEY's HASH.", x -> {
            sevenBuckets(x);
            // By LOW alone it is the ADDRESS; HIGH tells nothing.
            for (int low = 0; low < 100; low++) {
                same(1, x.visits(false, low));
            }
            same(7, x.visits(true, 0));
            same(7, x.visits(true, 99));
            x.rehash(682, 0);
            shape(x, 1, 3);
            // 000, 001, 010, 11, 100, 101, 110: the middle digit is of HIGH, the others of LOW.
            same(4, x.visits(true, 0));
            same(3, x.visits(true, 1));
            same(4, x.visits(true, 2));
            same(2, x.visits(false, 0));
            same(2, x.visits(false, 1));
            same(2, x.visits(false, 2));
            same(2, x.visits(false, 3));
            x.rehash(4, 0);
            shape(x, 1, 3);
            // The third digit is of HIGH, and 11 has none.
            same(4, x.visits(true, 0));
            same(4, x.visits(true, 1));
            same(1, x.visits(false, 3));
            same(2, x.visits(false, 0));
        });
        of("VISITS is how many these are.", x -> {
            same(1, x.visits(false, 0));
            same(2, x.visits(true, 0));
            x.rehash(1023, 0);
            same(2, x.visits(false, 0));
            same(1, x.visits(true, 0));
        });
    }

    private static void exceptions() {
        of("A method that throws an exception changes nothing.", x -> {
            Splitpointer twin = new Splitpointer();
            for (Splitpointer each : new Splitpointer[] {x, twin}) {
                byLow(each, 4, 8);
                put(each, keys(0, 1, 60));
                each.open(0);
                each.next(0);
                each.ask(0, 7);
            }
            log(x, 60, 4);
            Call[] wrong = {() -> x.found(5, 1), () -> x.found(2, 9), () -> x.bounds(1, 101),
                () -> x.bounds(41, 60), () -> x.put(1, 10000), () -> x.put(10000, 1),
                () -> x.drop(10000), () -> x.rehash(1, 10), () -> x.rehash(1024, 1),
                () -> x.find(10000), () -> x.ask(0, 10000), () -> x.get(10000),
                () -> x.ofKey(1, 6), () -> x.ofFile(22), () -> x.ofBucket(0, 6),
                () -> x.ofPage(0, 3), () -> x.ofClient(0, 3), () -> x.seek(true, 100, 0),
                () -> x.visits(true, 100), () -> x.would(1, 1, 4), () -> x.crashed(10000)};
            refuses(x, ARGUMENT, wrong);
            refuses(x, STATE, () -> x.put(60, 1), () -> x.next(1));
            refuses(x, INDEX, () -> x.open(3), () -> x.next(3), () -> x.ask(3, 1),
                    () -> x.ofBucket(60, 0), () -> x.chain(60), () -> x.ofPage(96, 0),
                    () -> x.mark(3), () -> x.ofClient(3, 0));
            log(x, 60, 4);
            same(twin.next(0), x.next(0));
            same(twin.crash(), x.crash());
            same(twin.digest(), x.digest());
        });
        of("If several exceptions apply, the one that is named first is thrown.", x -> {
            byLow(x, 4, 1);
            put(x, keys(0, 1, 60));
            refuses(x, ARGUMENT, () -> x.put(9999, 10000), () -> x.put(10000, 1));
            refuses(x, INDEX, () -> x.next(3), () -> x.ask(3, 10000), () -> x.ask(-1, -1),
                    () -> x.ofBucket(60, 6), () -> x.ofBucket(-1, -1), () -> x.ofPage(96, 3),
                    () -> x.ofPage(-1, -1), () -> x.ofClient(3, 3), () -> x.ofClient(-1, -1));
        });
    }
}
