import java.io.IOException;
import java.lang.reflect.Method;
import java.lang.reflect.Modifier;
import java.net.URL;
import java.net.URLClassLoader;
import java.nio.file.Files;
import java.nio.file.Path;
import java.util.ArrayList;
import java.util.List;
import java.util.Set;
import java.util.TreeSet;
import java.util.regex.Matcher;
import java.util.regex.Pattern;

/**
 * The examples in README.md answer as they say. All of them together become one program, in which
 * a line "x.call(..); // answer: words" is a call whose answer is looked at; javac compiles it.
 */
public final class ReadmeTest {
    private static final Check CHECK = new Check("ReadmeTest");
    private static final Path OUT = Path.of("build/readme");

    private static final Pattern BLOCK = Pattern.compile("(?s)\n```java\n(.*?)```");
    private static final Pattern TOLD = Pattern.compile(
            "((\\w+)\\.(\\w+)\\(.*\\)); *// (?:(throws) (\\w+)|([^:]+))(?:: .*)?");
    private static final Pattern LOOSE_CALL = Pattern.compile("\\w+\\.\\w+\\(.*");
    private static final int LEAST_ANSWERS = 60;

    /** What the program made of README.md calls. */
    public interface Answers {
        void is(String line, Object got, String due);

        void thrown(String line, Runnable call, String due);
    }

    private ReadmeTest() {
    }

    public static void main(String[] args) throws Exception {
        String readme = Source.read(Source.README);
        everyCallIsNamed(readme);
        List<String> lines = new ArrayList<>();
        int blocks = 0;
        Matcher block = BLOCK.matcher(readme);
        while (block.find()) {
            lines.addAll(List.of(block.group(1).split("\n")));
            blocks++;
        }
        CHECK.is("examples are found, " + blocks, blocks > 0, true);
        int answers = run(programOf(lines));
        CHECK.is("answers are found, " + answers, answers >= LEAST_ANSWERS, true);
        CHECK.end();
    }

    private static void everyCallIsNamed(String readme) {
        Set<String> calls = new TreeSet<>();
        for (Method method : NappingViews.class.getDeclaredMethods()) {
            if (Modifier.isPublic(method.getModifiers())) {
                calls.add(method.getName());
            }
        }
        for (String call : calls) {
            boolean named = readme.contains("`" + call + "`") || readme.contains("." + call + "(");
            CHECK.is("README.md names " + call, named, true);
        }
    }

    private static String programOf(List<String> lines) {
        StringBuilder program = new StringBuilder("public final class ReadmeExamples {\n"
                + "public static void run(ReadmeTest.Answers answers) {\n");
        for (String line : lines) {
            Matcher told = TOLD.matcher(line);
            if (told.matches() && told.group(4) != null) {
                program.append("answers.thrown(").append(quoted(line)).append(", () -> ")
                        .append(told.group(1)).append(", ").append(quoted(told.group(5)));
                program.append(");\n");
            } else if (told.matches()) {
                program.append("answers.is(").append(quoted(line)).append(", ")
                        .append(told.group(1)).append(", ").append(quoted(told.group(6).trim()));
                program.append(");\n");
            } else {
                CHECK.is("an example without an answer: " + line,
                        LOOSE_CALL.matcher(line).matches(), false);
                program.append(line).append('\n');
            }
        }
        return program.append("}\n}\n").toString();
    }

    private static String quoted(String text) {
        return "\"" + text.replace("\\", "\\\\").replace("\"", "\\\"") + "\"";
    }

    // Answers how many answers the examples tell.
    private static int run(String program) throws Exception {
        int[] told = new int[1];
        Class<?> examples = compiled(program);
        if (examples == null) {
            return 0;
        }
        examples.getMethod("run", Answers.class).invoke(null, new Answers() {
            @Override
            public void is(String line, Object got, String due) {
                told[0]++;
                CHECK.is(line, String.valueOf(got), due);
            }

            @Override
            public void thrown(String line, Runnable call, String due) {
                told[0]++;
                CHECK.is(line, thrownBy(call), due);
            }
        });
        return told[0];
    }

    private static String thrownBy(Runnable call) {
        try {
            call.run();
            return "nothing";
        } catch (RuntimeException e) {
            return e.getClass().getSimpleName();
        }
    }

    private static Class<?> compiled(String program) throws IOException, InterruptedException,
            ClassNotFoundException {
        Files.createDirectories(OUT);
        Path file = OUT.resolve("ReadmeExamples.java");
        Files.writeString(file, program);
        Process javac = new ProcessBuilder("javac", "--release", "17", "-d", OUT.toString(), "-cp",
                System.getProperty("java.class.path"), file.toString()).inheritIO().start();
        int failed = javac.waitFor();
        CHECK.is("the examples compile", failed, 0);
        if (failed != 0) {
            return null;
        }
        return new URLClassLoader(new URL[] {OUT.toUri().toURL()}).loadClass("ReadmeExamples");
    }
}
