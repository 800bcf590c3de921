import java.io.IOException;
import java.io.UncheckedIOException;
import java.nio.charset.StandardCharsets;
import java.nio.file.Files;
import java.nio.file.Path;
import java.util.ArrayList;
import java.util.List;
import java.util.regex.Matcher;
import java.util.regex.Pattern;

/** The texts that tests read, and the methods in the text of the class. */
final class Source {
    static final Path CLASS = Path.of("src/main/java/NappingViews.java");
    static final Path DOCUMENT = Path.of("../shared/DOC.md");
    static final Path README = Path.of("README.md");

    // A declaration: words ahead of a name, arguments, perhaps exceptions, and a body.
    private static final Pattern DECLARED = Pattern.compile(
            "\\n *((?:[\\w\\[\\]]+ )*)(\\w+)\\(([^()]*)\\)(?:\\s*throws [\\w,\\s]+)?\\s*\\{");
    private static final List<String> NO_NAMES = List.of("if", "for", "while", "switch");

    /** A method or a constructor; the body goes from its "{" to its "}". */
    record Method(String words, String name, String body) {
        boolean isConstructor() {
            return Character.isUpperCase(name.charAt(0));
        }
    }

    private Source() {
    }

    static String read(Path path) {
        try {
            return Files.readString(path, StandardCharsets.UTF_8);
        } catch (IOException e) {
            throw new UncheckedIOException(e);
        }
    }

    // As many signs and lines as before, but for what stands in comments and in texts.
    static String withoutCommentsAndTexts(String source) {
        StringBuilder code = new StringBuilder(source);
        int at = 0;
        while (at < code.length()) {
            if (source.startsWith("//", at)) {
                at = blank(code, at, source.indexOf("\n", at));
            } else if (source.startsWith("/*", at)) {
                at = blank(code, at, source.indexOf("*/", at) + 2);
            } else if (source.charAt(at) == '"' || source.charAt(at) == '\'') {
                at = blank(code, at + 1, source.indexOf(source.charAt(at), at + 1)) + 1;
            } else {
                at++;
            }
        }
        return code.toString();
    }

    private static int blank(StringBuilder code, int from, int to) {
        for (int i = from; i < to; i++) {
            if (code.charAt(i) != '\n') {
                code.setCharAt(i, ' ');
            }
        }
        return to;
    }

    static List<Method> methods(String code) {
        List<Method> found = new ArrayList<>();
        Matcher matcher = DECLARED.matcher(code);
        while (matcher.find()) {
            if (!NO_NAMES.contains(matcher.group(2))) {
                found.add(new Method(matcher.group(1), matcher.group(2),
                        code.substring(matcher.end() - 1, closing(code, matcher.end() - 1) + 1)));
            }
        }
        return found;
    }

    // Where the bracket that opens there is closed.
    private static int closing(String code, int from) {
        int open = 0;
        for (int i = from; i < code.length(); i++) {
            open += code.charAt(i) == '{' ? 1 : code.charAt(i) == '}' ? -1 : 0;
            if (open == 0) {
                return i;
            }
        }
        return code.length() - 1;
    }
}
