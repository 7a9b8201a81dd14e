import java.lang.reflect.InvocationTargetException;
import java.lang.reflect.Method;
import java.util.ArrayList;
import java.util.List;
import java.util.Map;
import java.util.TreeMap;

/** Long runs of calls on Splitpointer and on the Model: each answer must be the same. */
public final class ModelTest {
    private static final int CALLS = 512;
    private static final int RUNS = 156;

    private static final Map<String, Method> REAL = methodsOf(Splitpointer.class);
    private static final Map<String, Method> MODEL = methodsOf(Model.class);
    /** How often a method answered, and how often it threw: both must happen. */
    private static final Map<String, Integer> OUTCOMES = new TreeMap<>();
    /** How often a run came to what is rare; none of it may stay out. */
    private static final Map<String, Integer> REACHED = new TreeMap<>();
    private static final List<String> RARE = List.of("checkpoint by a full log", "ask 1", "ask 2",
            "ask 3", "file of 60", "59 buckets", "4 pages in a chain", "image is ahead");

    private final List<String> told = new ArrayList<>();
    private long state;
    private int left = CALLS;

    private ModelTest(long seed) {
        state = seed * 2654435761L + 12345;
    }

    /** An argument is how many runs there shall be instead of the usual number. */
    public static void main(String[] args) {
        int runs = args.length > 0 ? Integer.parseInt(args[0]) : RUNS;
        for (int run = 0; run < runs; run++) {
            new ModelTest(run).go(run);
        }
        checkOutcomes();
        System.out.println(runs + " runs of " + CALLS + " calls are as the model has them: "
                + REACHED);
    }

    private static Map<String, Method> methodsOf(Class<?> type) {
        Map<String, Method> methods = new TreeMap<>();
        for (Method method : type.getDeclaredMethods()) {
            if (java.lang.reflect.Modifier.isPublic(method.getModifiers())) {
                methods.put(method.getName(), method);
            }
        }
        return methods;
    }

    private static void checkOutcomes() {
        List<String> never = List.of("flush", "checkpoint", "crash", "knock", "isSound", "digest");
        for (String name : REAL.keySet()) {
            if (!OUTCOMES.containsKey(name)) {
                fail(name + " has never answered");
            }
            if (!never.contains(name) && !OUTCOMES.containsKey(name + " throws")) {
                fail(name + " has never thrown");
            }
        }
        for (String rare : RARE) {
            if (!REACHED.containsKey(rare)) {
                fail(rare + ": never reached");
            }
        }
    }

    private static void reach(boolean is, String what) {
        if (is) {
            REACHED.merge(what, 1, Integer::sum);
        }
    }

    private static void noteRare(String name, String answer, int actsBefore, Model model) {
        boolean isAct = List.of("put", "drop", "rehash", "bounds").contains(name);
        reach(isAct && actsBefore == 60 && model.ofFile(18) == 1, "checkpoint by a full log");
        reach(name.equals("ask") && "123".contains(answer), "ask " + answer);
        reach(name.equals("put") && answer.equals("throws.IllegalStateException"), "file of 60");
        reach(model.ofFile(1) == 59, "59 buckets");
        reach(model.ofFile(11) >= 4, "4 pages in a chain");
        reach(name.equals("ask") && model.ofClient(0, 2) < 0, "image is ahead");
    }

    private static void fail(String text) {
        System.out.println(text);
        System.exit(1);
    }

    private int below(int limit) {
        state = state * 6364136223846793005L + 1442695040888963407L;
        return (int) ((state >>> 33) % limit);
    }

    private static String outcome(Map<String, Method> methods, Object on, String name,
            Object[] arguments) {
        try {
            return String.valueOf(methods.get(name).invoke(on, arguments));
        } catch (InvocationTargetException e) {
            if (e.getCause() instanceof AssertionError) {
                throw (AssertionError) e.getCause();
            }
            return "throws." + e.getCause().getClass().getSimpleName();
        } catch (IllegalAccessException e) {
            throw new AssertionError(e);
        }
    }

    private void call(Splitpointer real, Model model, int run, String name, Object... arguments) {
        left--;
        int actsBefore = model.ofFile(18);
        String due = outcome(MODEL, model, name, arguments);
        noteRare(name, due, actsBefore, model);
        String got = outcome(REAL, real, name, arguments);
        told.add(name + List.of(arguments) + " " + got);
        OUTCOMES.merge(due.startsWith("throws.") ? name + " throws" : name, 1, Integer::sum);
        if (!due.equals(got)) {
            for (String line : told) {
                System.out.println(line);
            }
            fail("run " + run + ": due is " + due);
        }
    }

    private void go(int run) {
        Splitpointer real = new Splitpointer();
        Model model = new Model();
        int kind = run % 13;
        if (kind < 11) {
            call(real, model, run, "found", 2 + run % 3, 1 + run / 3 % 8);
        }
        if (run % 4 == 1) {
            call(real, model, run, "bounds", 0, 100);
        }
        if (run % 4 == 2) {
            call(real, model, run, "bounds", 40, 50);
        }
        if (run % 6 == 5) {
            fill(real, model, run);
        }
        while (left > 2) {
            // The kinds of runs put more in, take more out, act more or ask more.
            boolean isGrowing = left / 100 % 2 == 1;
            int dice = below(100);
            if (dice < (kind % 3 == 0 ? 75 : 40)) {
                change(real, model, run, isGrowing);
            } else {
                askSomething(real, model, run);
            }
        }
        call(real, model, run, "digest");
    }

    /** With CAP 2 and UPPER 50 there are the most BUCKETS then that can be. */
    private void fill(Splitpointer real, Model model, int run) {
        call(real, model, run, "found", 2 + run / 6 % 3, 8);
        call(real, model, run, "bounds", run % 40, 50);
        for (int i = 0; i < 61; i++) {
            call(real, model, run, "put", (run * 13 + i * (run % 97 + 1)) % 10000, i);
        }
    }

    private int key(int run) {
        switch (run % 5) {
            case 0:
                return below(10000);
            case 1:
                return below(8) * 100 + below(12);
            case 2:
                return below(100) * 100 + below(2);
            case 3:
                return below(90);
            default:
                return below(16) * 64;
        }
    }

    private int wrongKey(int run) {
        int dice = below(40);
        return dice == 0 ? -1 : dice == 1 ? 10000 : dice == 2 ? 9999 : dice == 3 ? 0 : key(run);
    }

    private int knownKey(Model model, int run) {
        // A KEY that is there, without a call that would count.
        if (below(4) > 0) {
            int high = below(100);
            for (int i = 0; i < 100; i++) {
                int found = model.seek(true, (high + i) % 100, 0);
                if (found >= 0) {
                    int nth = below(3);
                    int later = model.seek(true, found / 100, nth);
                    return later >= 0 ? later : found;
                }
            }
        }
        return wrongKey(run);
    }

    private void change(Splitpointer real, Model model, int run, boolean isGrowing) {
        int dice = below(100);
        if (dice < 4) {
            call(real, model, run, "rehash", below(30) == 0 ? 1024 : below(1024), below(11));
        } else if (dice < 7) {
            call(real, model, run, "bounds", below(43) - 1, 49 + below(53));
        } else if (dice < 10) {
            call(real, model, run, "crash");
        } else if (dice < 13) {
            call(real, model, run, "flush");
        } else if (dice < 15 && run % 2 == 0) {
            call(real, model, run, "checkpoint");
        } else if (dice < 16 && below(12) == 0) {
            call(real, model, run, "found", 1 + below(5), below(10));
        } else if (dice < (isGrowing ? 85 : 30)) {
            int value = below(50) == 0 ? 10000 : below(10000);
            call(real, model, run, "put", below(6) == 0 ? knownKey(model, run) : wrongKey(run),
                    value);
        } else {
            call(real, model, run, "drop", knownKey(model, run));
        }
    }

    private void askSomething(Splitpointer real, Model model, int run) {
        int buckets = model.ofFile(1);
        switch (below(18)) {
            case 0:
                call(real, model, run, "find", knownKey(model, run));
                break;
            case 1:
                call(real, model, run, "open", below(40) == 0 ? -1 : below(40) == 0 ? 3 : below(3));
                break;
            case 2:
            case 3:
                call(real, model, run, "next", below(40) == 0 ? -1 : below(40) == 0 ? 3 : below(3));
                break;
            case 4:
            case 5:
                call(real, model, run, "ask", below(40) == 0 ? -1 : below(40) == 0 ? 3 : below(3),
                        wrongKey(run));
                break;
            case 6:
                call(real, model, run, "knock");
                break;
            case 7:
                call(real, model, run, "get", knownKey(model, run));
                break;
            case 8:
                call(real, model, run, "ofKey", knownKey(model, run), below(8) - 1);
                break;
            case 9:
                call(real, model, run, "ofFile", below(24) - 1);
                break;
            case 10:
                call(real, model, run, "ofBucket", below(buckets + 2) - 1, below(8) - 1);
                break;
            case 11:
                call(real, model, run, "chain", below(buckets + 2) - 1);
                break;
            case 12:
                call(real, model, run, "ofPage", below(4) == 0 ? below(98) - 1 : below(20),
                        below(5) - 1);
                break;
            case 13:
                call(real, model, run, "mark", below(5) - 1);
                call(real, model, run, "ofClient", below(5) - 1, below(5) - 1);
                break;
            case 14:
                call(real, model, run, "seek", below(2) == 0,
                        below(9) == 0 ? below(102) - 1 : below(4), below(6) - 1);
                call(real, model, run, "visits", below(2) == 0, below(102) - 1);
                break;
            case 15:
                call(real, model, run, "would", below(40) == 0 ? 1024 : below(1024), below(11),
                        below(6) - 1);
                break;
            case 16:
                call(real, model, run, "crashed", below(3) == 0 ? -1 : knownKey(model, run) - 1);
                call(real, model, run, "isSound");
                break;
            default:
                call(real, model, run, "digest");
                break;
        }
    }
}
