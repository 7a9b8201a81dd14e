import java.io.File;
import java.io.IOException;
import java.nio.charset.StandardCharsets;
import java.nio.file.Files;
import java.nio.file.Path;
import java.nio.file.StandardCopyOption;
import java.util.ArrayList;
import java.util.Arrays;
import java.util.List;
import java.util.TreeSet;
import java.util.regex.Matcher;
import java.util.regex.Pattern;

/**
 * The program in README.md, compiled and run by the commands that stand there, prints the answers
 * that its comments tell; and README.md names every test.
 */
public final class ReadmeTest {
    private static final Path PLACE = Path.of("build/readme");
    private static final String SOURCE = "src/main/java/Splitpointer.java";
    private static final Pattern PRINTED = Pattern.compile("System\\.out\\.println\\(.*\\);(.*)");
    private static final Pattern COMMENT = Pattern.compile(" +// (.+?)(: .*)?");

    private static int wrong = 0;

    public static void main(String[] args) throws Exception {
        String readme = Files.readString(Path.of("README.md"));
        String program = block(readme, "java", "class Example ");
        String commands = block(readme, "sh", "Example.java");
        compare(answersTold(program), answersGiven(program, commands));
        checkCalls(program);
        checkTestsNamed(readme);
        System.out.println(wrong == 0 ? "README.md tells what the class answers" : wrong + " faults");
        System.exit(wrong == 0 ? 0 : 1);
    }

    private static void fail(String fault) {
        wrong++;
        System.out.println(fault);
    }

    /** What stands in the block of that kind that has those words; "" without one. */
    private static String block(String readme, String kind, String words) {
        Matcher blocks = Pattern.compile("(?s)\n```" + kind + "\n(.*?)```\n").matcher(readme);
        while (blocks.find()) {
            if (blocks.group(1).contains(words)) {
                return blocks.group(1);
            }
        }
        fail("README.md has no " + kind + " block with: " + words);
        return "";
    }

    private static List<String> answersTold(String program) {
        List<String> told = new ArrayList<>();
        for (String line : program.split("\n")) {
            Matcher printed = PRINTED.matcher(line.trim());
            if (printed.matches()) {
                Matcher comment = COMMENT.matcher(printed.group(1));
                if (comment.matches()) {
                    told.add(comment.group(1));
                } else {
                    fail("no answer is told: " + line.trim());
                }
            }
        }
        return told;
    }

    /** Made in a directory of its own: the commands of README.md name files by where they lie. */
    private static List<String> answersGiven(String program, String commands) throws Exception {
        Path source = PLACE.resolve(SOURCE);
        Files.createDirectories(source.getParent());
        Files.copy(Path.of(SOURCE), source, StandardCopyOption.REPLACE_EXISTING);
        Files.writeString(PLACE.resolve("Example.java"), program);
        Process shell = new ProcessBuilder("sh", "-e", "-c", commands)
                .directory(PLACE.toFile())
                .redirectError(ProcessBuilder.Redirect.INHERIT)
                .redirectInput(new File("/dev/null"))
                .start();
        byte[] printed = shell.getInputStream().readAllBytes();
        if (shell.waitFor() != 0) {
            fail("the commands of README.md fail: " + commands);
        }
        String text = new String(printed, StandardCharsets.UTF_8);
        return text.isEmpty() ? List.of() : Arrays.asList(text.split("\n"));
    }

    private static void compare(List<String> told, List<String> given) {
        if (told.size() < 10) {
            fail("README.md tells only " + told.size() + " answers");
        }
        if (told.size() != given.size()) {
            fail("README.md tells " + told.size() + " answers, printed are " + given.size());
        }
        for (int i = 0; i < told.size() && i < given.size(); i++) {
            if (!told.get(i).equals(given.get(i))) {
                fail("answer " + i + " is " + given.get(i) + ", README.md tells " + told.get(i));
            }
        }
    }

    /** Those calls that have an answer must have it told: none stands alone, but in a try. */
    private static void checkCalls(String program) {
        boolean isTried = false;
        for (String line : program.split("\n")) {
            isTried = line.contains("try {") || isTried && !line.contains("catch");
            if (line.trim().startsWith("file.") && !isTried) {
                fail("a call without its answer: " + line.trim());
            }
        }
    }

    private static void checkTestsNamed(String readme) throws IOException {
        TreeSet<String> names = new TreeSet<>();
        try (var files = Files.list(Path.of("src/test/java"))) {
            files.forEach(file -> names.add(file.getFileName().toString()));
        }
        names.add("../shared/tests");
        names.add(".ci/run");
        for (String name : names) {
            if (!readme.contains(name)) {
                fail("README.md does not name " + name);
            }
        }
    }
}
