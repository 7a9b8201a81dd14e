import java.lang.reflect.InvocationTargetException;
import java.lang.reflect.Method;
import java.lang.reflect.Modifier;
import java.util.Arrays;

/** Every method with every mix of numbers at and beyond its edges, as the Model has it. */
public final class EdgeTest {
    private static final int[] EDGES = {Integer.MIN_VALUE, -3, -2, -1, 0, 1, 2, 3, 4, 5, 6, 8, 9,
        10, 21, 22, 40, 41, 49, 50, 95, 96, 99, 100, 101, 1023, 1024, 9999, 10000,
        Integer.MAX_VALUE};
    private static final int[] FEW_EDGES = {Integer.MIN_VALUE, -1, 0, 1, 2, 3, 4, 5, 9, 10, 99, 100,
        1023, 1024, Integer.MAX_VALUE};
    private static final int CALLS = 400;

    private Splitpointer real;
    private Model model;
    private int calls = CALLS;
    private int wrong = 0;
    private long count = 0;

    public static void main(String[] args) throws Exception {
        EdgeTest test = new EdgeTest();
        for (Method method : Splitpointer.class.getDeclaredMethods()) {
            if (Modifier.isPublic(method.getModifiers())) {
                test.tryAll(method, new Object[method.getParameterCount()], 0);
            }
        }
        System.out.println(test.count + " calls at the edges, " + test.wrong + " wrong ones");
        System.exit(test.wrong == 0 ? 0 : 1);
    }

    private void tryAll(Method method, Object[] arguments, int from) throws Exception {
        if (from == arguments.length) {
            tryOne(method, arguments);
            return;
        }
        if (method.getParameterTypes()[from] == boolean.class) {
            for (boolean is : new boolean[] {false, true}) {
                arguments[from] = is;
                tryAll(method, arguments, from + 1);
            }
            return;
        }
        for (int edge : arguments.length > 2 ? FEW_EDGES : EDGES) {
            arguments[from] = edge;
            tryAll(method, arguments, from + 1);
        }
    }

    private void tryOne(Method method, Object[] arguments) throws Exception {
        if (calls >= CALLS) {
            prepare();
        }
        calls++;
        count++;
        Method due = Model.class.getMethod(method.getName(), method.getParameterTypes());
        String dueAnswer = answer(due, model, arguments);
        String answer = answer(method, real, arguments);
        if (!answer.equals(dueAnswer)) {
            wrong++;
            System.out.println(method.getName() + Arrays.toString(arguments) + ": " + answer
                    + ", due is " + dueAnswer);
        }
    }

    private void prepare() {
        real = new Splitpointer();
        model = new Model();
        calls = 0;
        real.found(2, 3);
        model.found(2, 3);
        for (int i = 0; i < 20; i++) {
            int key = i * i * 31 % 10000;
            real.put(key, i);
            model.put(key, i);
        }
        real.open(1);
        model.open(1);
    }

    private static String answer(Method method, Object on, Object[] arguments) throws Exception {
        try {
            return String.valueOf(method.invoke(on, arguments));
        } catch (InvocationTargetException e) {
            return "throws." + e.getCause().getClass().getSimpleName();
        }
    }
}
