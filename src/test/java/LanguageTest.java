import java.lang.reflect.Constructor;
import java.lang.reflect.Field;
import java.lang.reflect.Method;
import java.lang.reflect.Modifier;
import java.nio.file.Files;
import java.nio.file.Path;
import java.util.ArrayList;
import java.util.Arrays;
import java.util.Collections;
import java.util.List;
import java.util.TreeSet;
import java.util.regex.Matcher;
import java.util.regex.Pattern;

/** The public face of the document, and what can be seen of ../shared/LANGUAGE.md in the file. */
public final class LanguageTest {
    private static final String SOURCE = "src/main/java/Splitpointer.java";
    private static final String[] FACE = {
        "int found(int,int) IllegalArgumentException",
        "int bounds(int,int) IllegalArgumentException",
        "int put(int,int) IllegalArgumentException,IllegalStateException",
        "int drop(int) IllegalArgumentException",
        "int rehash(int,int) IllegalArgumentException",
        "int find(int) IllegalArgumentException",
        "boolean open(int) IndexOutOfBoundsException",
        "int next(int) IndexOutOfBoundsException,IllegalStateException",
        "int ask(int,int) IndexOutOfBoundsException,IllegalArgumentException",
        "int flush() ",
        "int checkpoint() ",
        "int crash() ",
        "int knock() ",
        "int get(int) IllegalArgumentException",
        "int ofKey(int,int) IllegalArgumentException",
        "int ofFile(int) IllegalArgumentException",
        "int ofBucket(int,int) IndexOutOfBoundsException,IllegalArgumentException",
        "String chain(int) IndexOutOfBoundsException",
        "int ofPage(int,int) IndexOutOfBoundsException,IllegalArgumentException",
        "int mark(int) IndexOutOfBoundsException",
        "int ofClient(int,int) IndexOutOfBoundsException,IllegalArgumentException",
        "int seek(boolean,int,int) IllegalArgumentException",
        "int visits(boolean,int) IllegalArgumentException",
        "int would(int,int,int) IllegalArgumentException",
        "int crashed(int) IllegalArgumentException",
        "boolean isSound() ",
        "long digest() ",
    };
    private static final String[] FORBIDDEN = {"\\bpackage\\b", "::", "\\) *->", "\\bfinally\\b",
        "\\bsynchronized\\b", "\\bassert\\b", "Exact\\(", "\\bSystem\\.(?!arraycopy)",
        "\\bThread\\b", "\\bprotected\\b", "\\bhashCode\\b", "while \\(true\\)", "for \\(;;\\)",
        "import (?!java\\.util\\.(ArrayList|List|Arrays|Iterator|NoSuchElementException);)",
        "catch \\((Exception|Throwable|RuntimeException|NullPointer|ArrayIndex|ClassCast|Negative"
            + "|ArrayStore)", "[^\\x00-\\x7f]"};

    private static int wrong = 0;

    public static void main(String[] args) throws Exception {
        checkFace();
        checkClass(Splitpointer.class);
        Class<?>[] inside = Splitpointer.class.getDeclaredClasses();
        for (Class<?> type : inside) {
            need(Modifier.isStatic(type.getModifiers()), type + " is not static");
            need(!Modifier.isPublic(type.getModifiers()), type + " is public");
            checkClass(type);
        }
        need(inside.length <= 11, "too many classes");
        checkSource(Files.readString(Path.of(SOURCE)));
        System.out.println(wrong == 0 ? "the language is kept to" : wrong + " faults");
        System.exit(wrong == 0 ? 0 : 1);
    }

    private static void need(boolean right, String fault) {
        if (!right) {
            wrong++;
            System.out.println(fault);
        }
    }

    private static void checkFace() {
        need(Modifier.isFinal(Splitpointer.class.getModifiers()), "the class is not final");
        List<String> got = new ArrayList<>();
        for (Method method : Splitpointer.class.getDeclaredMethods()) {
            int modifiers = method.getModifiers();
            if (Modifier.isPublic(modifiers)) {
                got.add(signature(method));
            } else {
                need(Modifier.isPrivate(modifiers) || method.isSynthetic(),
                        method + " is not private");
            }
        }
        List<String> due = new ArrayList<>(Arrays.asList(FACE));
        Collections.sort(got);
        Collections.sort(due);
        need(got.equals(due), "the face is " + got);
        Constructor<?>[] constructors = Splitpointer.class.getDeclaredConstructors();
        need(constructors.length == 1 && constructors[0].getParameterCount() == 0
                && Modifier.isPublic(constructors[0].getModifiers()), "not its constructor");
        for (Field field : Splitpointer.class.getDeclaredFields()) {
            need(Modifier.isPrivate(field.getModifiers()), field + " is not private");
        }
    }

    private static String signature(Method method) {
        return method.getReturnType().getSimpleName() + " " + method.getName() + "("
                + names(method.getParameterTypes()) + ") " + names(method.getExceptionTypes());
    }

    private static String names(Class<?>[] types) {
        List<String> names = new ArrayList<>();
        for (Class<?> type : types) {
            names.add(type.getSimpleName());
        }
        return String.join(",", names);
    }

    private static void checkClass(Class<?> type) {
        TreeSet<String> faceNames = new TreeSet<>();
        for (String line : FACE) {
            faceNames.add(line.substring(line.indexOf(' ') + 1, line.indexOf('(')));
        }
        int own = 0;
        for (Field field : type.getDeclaredFields()) {
            if (Modifier.isStatic(field.getModifiers())) {
                need(Modifier.isFinal(field.getModifiers()), field + " is static, but not final");
            } else {
                own++;
            }
        }
        need(own <= 24, type + " has " + own + " fields");
        for (Method method : type.getDeclaredMethods()) {
            need(method.getParameterCount() <= 7, method + " has too many parameters");
            need(!Modifier.isPrivate(method.getModifiers())
                    || !faceNames.contains(method.getName()),
                    method + " bears the name of a public one");
        }
    }

    private static void checkSource(String source) {
        String code = source.replaceAll("(?s)/\\*.*?\\*/", "").replaceAll("//[^\n]*", "");
        for (String text : FORBIDDEN) {
            Matcher matcher = Pattern.compile(text).matcher(code);
            need(!matcher.find(), "the file has " + text);
        }
        Matcher thrown = Pattern.compile("throw\\b[^;]*;").matcher(code);
        Pattern right = Pattern.compile("throw new (IllegalArgument|IllegalState|IndexOutOfBounds"
                + "|Arithmetic|UnsupportedOperation|NoSuchElement|Runtime)"
                + "Exception\\((\"[^\"]*\")?\\);");
        while (thrown.find()) {
            need(right.matcher(thrown.group()).matches(), "a throw: " + thrown.group());
        }
        if (code.contains("class Row ")) {
            checkIndexes(code);
        }
        checkMethodLengths(code);
    }

    /** As long as there is a Row, no other class has an array: so each index is looked at. */
    private static void checkIndexes(String code) {
        Matcher index = Pattern.compile("\\w+\\[[^\\]]+\\]").matcher(code);
        while (index.find()) {
            need(index.group().matches("cells\\[(i|index)\\]|int\\[length > 0 \\? length : 0\\]"),
                    "an index outside Row: " + index.group());
        }
    }

    private static void checkMethodLengths(String code) {
        int start = 0;
        String[] lines = code.split("\n", -1);
        for (int i = 0; i < lines.length; i++) {
            if (lines[i].matches("( {4}| {8})[\\w<\\[].*\\(.*") && !lines[i].endsWith(";")) {
                start = i;
            } else if (lines[i].matches("( {4}| {8})\\}")) {
                need(i - start < 70, "a long method ends at line " + i);
            }
        }
    }
}
