import java.io.IOException;
import java.nio.file.Files;
import java.nio.file.Path;
import java.util.ArrayList;
import java.util.List;

/**
 * Tests by the sentences of the document: each one quotes the words that it is for, and is done on
 * a new object. What is quoted must stand in the document, and nothing of it may stay unquoted.
 */
abstract class Sentences {
    static final Class<?> ARGUMENT = IllegalArgumentException.class;
    static final Class<?> INDEX = IndexOutOfBoundsException.class;
    static final Class<?> STATE = IllegalStateException.class;
    static final int NONE = -1;
    static final int LOWEST = Integer.MIN_VALUE;
    static final int HIGHEST = Integer.MAX_VALUE;

    private static final Path DOCUMENT = Path.of("../shared/DOC.md");
    private static final int DESCRIPTION = 0;
    private static final int OPENING = 29;
    /** The first index is the promise, or 0 for the description, or 29 for what is ahead of it. */
    private static final List<List<String>> QUOTED = new ArrayList<>();
    private static String now = "";
    private static int checks = 0;
    private static int tests = 0;
    private static int wrong = 0;

    interface Check {
        void on(Splitpointer x);
    }

    interface Call {
        void go();
    }

    /** A test for words of the description. */
    static void of(String words, Check check) {
        promise(DESCRIPTION, words, check);
    }

    /** A test for words ahead of the description. */
    static void opening(String words, Check check) {
        promise(OPENING, words, check);
    }

    /** A test for words of a promise. */
    static void promise(int number, String words, Check check) {
        while (QUOTED.size() <= OPENING) {
            QUOTED.add(new ArrayList<>());
        }
        QUOTED.get(number).add(words);
        boolean isCall = number != DESCRIPTION && number != OPENING;
        now = isCall ? "Promise " + number + ": " + words : words;
        checks = 0;
        tests++;
        try {
            check.on(new Splitpointer());
        } catch (RuntimeException e) {
            fail("threw " + e);
        }
        if (checks == 0) {
            fail("checks nothing");
        }
    }

    private static void fail(String fault) {
        wrong++;
        System.out.println("[" + now + "] check " + checks + ": " + fault);
    }

    static void same(long due, long got) {
        checks++;
        if (due != got) {
            fail("got " + got + ", due is " + due);
        }
    }

    static void same(String due, String got) {
        checks++;
        if (!due.equals(got)) {
            fail("got " + got + ", due is " + due);
        }
    }

    static void yes(boolean got) {
        same(1, got ? 1 : 0);
    }

    static void no(boolean got) {
        same(0, got ? 1 : 0);
    }

    /** Each of these calls throws exactly that, and changes nothing that a digest can see. */
    static void refuses(Splitpointer x, Class<?> due, Call... calls) {
        for (Call call : calls) {
            long before = x.digest();
            Class<?> got = null;
            try {
                call.go();
            } catch (RuntimeException e) {
                got = e.getClass();
            }
            checks++;
            if (got != due) {
                fail("threw " + got + ", due is " + due);
            }
            same(before, x.digest());
        }
    }

    /** None of these calls throws. */
    static void allows(Call... calls) {
        for (Call call : calls) {
            checks++;
            try {
                call.go();
            } catch (RuntimeException e) {
                fail("threw " + e);
            }
        }
    }

    static void put(Splitpointer x, int... keys) {
        for (int key : keys) {
            x.put(key, key % 9000 + 1000);
        }
    }

    static void drop(Splitpointer x, int... keys) {
        for (int key : keys) {
            x.drop(key);
        }
    }

    /** The KEYS from, from + step, and so on: so many. */
    static int[] keys(int from, int step, int count) {
        int[] keys = new int[count];
        for (int i = 0; i < count; i++) {
            keys[i] = from + i * step;
        }
        return keys;
    }

    /** HASH is LOW; BOUNDS are 0 and 100, so that a SPLIT comes late, and a MERGE never. */
    static void byLow(Splitpointer x, int cap, int group) {
        x.found(cap, group);
        x.rehash(0, 0);
        x.bounds(0, 100);
        x.checkpoint();
    }

    static void shape(Splitpointer x, int level, int pointer) {
        same(level, x.ofFile(2));
        same(pointer, x.ofFile(3));
    }

    static void image(Splitpointer x, int client, int level, int pointer) {
        same(level, x.ofClient(client, 0));
        same(pointer, x.ofClient(client, 1));
    }

    /** READS and FALSE ones. */
    static void counts(Splitpointer x, int reads, int falseOnes) {
        same(reads, x.ofFile(14));
        same(falseOnes, x.ofFile(15));
    }

    static void log(Splitpointer x, int acts, int unflushed) {
        same(acts, x.ofFile(18));
        same(unflushed, x.ofFile(19));
    }

    static void finish() throws IOException {
        if (Files.exists(DOCUMENT)) {
            checkQuotes(Files.readString(DOCUMENT));
        }
        System.out.println(tests + " sentences, " + wrong + " faults");
        System.exit(wrong == 0 ? 0 : 1);
    }

    private static void checkQuotes(String document) {
        for (int number = 0; number < QUOTED.size(); number++) {
            if (!QUOTED.get(number).isEmpty()) {
                checkPart(number, partOf(document, number));
            }
        }
    }

    private static void checkPart(int number, String part) {
        String rest = part;
        List<String> longestFirst = new ArrayList<>(QUOTED.get(number));
        longestFirst.sort((one, other) -> other.length() - one.length());
        for (String words : longestFirst) {
            if (!part.contains(words)) {
                wrong++;
                System.out.println("the document has not: " + words);
            }
            rest = rest.replace(words, "");
        }
        if (number != OPENING && !rest.replaceAll("\\W", "").isEmpty()) {
            wrong++;
            System.out.println("without a test, in " + number + ": " + rest.trim());
        }
    }

    /** That part in one line, without what a test of calls has nothing to do with. */
    private static String partOf(String document, int number) {
        if (number == OPENING) {
            String opening = document.substring(0, document.indexOf("## Description"));
            return opening.replaceAll("\\s+", " ");
        }
        String from = number == DESCRIPTION ? "## Description" : "## Promise " + number + ":";
        String to = number == DESCRIPTION ? "The constructor and the methods follow" : "\n## ";
        int start = document.indexOf(from) + from.length();
        String part = document.substring(start, document.indexOf(to, start));
        if (number == DESCRIPTION) {
            part = part.replaceAll("(?m)^== .*$", "");
        } else {
            part = part.substring(part.indexOf('\n')).replaceAll("(?m)^(`|----).*$", "")
                    .replaceAll("(?m)^- `(?!what).*$", "");
        }
        return part.replaceAll("\\s+", " ");
    }
}
