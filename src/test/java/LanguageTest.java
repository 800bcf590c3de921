import java.lang.reflect.Field;
import java.lang.reflect.Method;
import java.lang.reflect.Modifier;
import java.util.ArrayList;
import java.util.List;
import java.util.Set;
import java.util.TreeSet;
import java.util.regex.Matcher;
import java.util.regex.Pattern;

/**
 * The rules of ../shared/LANGUAGE.md, as far as the text of the class or the compiled class can
 * tell. Where the class may come to use more of the language than it does, a set below grows.
 */
public final class LanguageTest {
    private static final Check CHECK = new Check("LanguageTest");

    private static final Set<String> EXCEPTIONS = Set.of("IllegalStateException",
            "IllegalArgumentException", "IndexOutOfBoundsException", "ArithmeticException",
            "UnsupportedOperationException", "NoSuchElementException", "RuntimeException");
    private static final Set<String> LIBRARY = Set.of("Math.max", "Math.min", "Math.abs",
            "Math.floorDiv", "Math.floorMod", "System.arraycopy", "Arrays.fill", "Arrays.copyOf",
            "Arrays.copyOfRange", "Integer.compare", "Integer.bitCount", "Long.compare",
            "Long.bitCount");
    private static final Set<String> STATIC_TYPES = Set.of("int", "long", "boolean", "char",
            "java.lang.String", "[I", "[J", "[C", "[B");
    private static final Set<String> NUMBERS = Set.of("int", "long", "short", "byte", "char",
            "boolean", "double", "float");
    private static final String[] LEFT_OUT = {"package", "import", "try", "catch", "finally",
        "synchronized", "assert", "yield", "volatile", "transient", "native", "strictfp",
        "Thread", "Random", "Object", "equals", "hashCode", "toString", "getClass"};

    private final String source = Source.read(Source.CLASS);
    private final String code = Source.withoutCommentsAndTexts(source);
    private final List<Source.Method> methods = Source.methods(code);
    private final Class<?>[] classes = NappingViews.class.getNestMembers();
    private final Set<String> ownNames = new TreeSet<>();

    private LanguageTest() {
        for (Class<?> own : classes) {
            ownNames.add(own.getSimpleName());
        }
    }

    public static void main(String[] args) {
        LanguageTest test = new LanguageTest();
        test.allMethodsAreFound();
        test.privateNames();
        test.classesInside();
        test.types();
        test.library();
        test.staticFields();
        test.exceptions();
        test.loops();
        test.sizes();
        test.objectsAreMadeInConstructors();
        CHECK.end();
    }

    private static void is(String what, Object got, Object due) {
        CHECK.is(what, got, due);
    }

    private int count(String pattern, String text) {
        Matcher matcher = Pattern.compile(pattern).matcher(text);
        int count = 0;
        while (matcher.find()) {
            count++;
        }
        return count;
    }

    // The other looks at methods rest on this one.
    private void allMethodsAreFound() {
        int declared = 0;
        for (Class<?> own : classes) {
            for (Method method : own.getDeclaredMethods()) {
                declared += method.isSynthetic() ? 0 : 1;
            }
        }
        int found = 0;
        for (Source.Method method : methods) {
            found += method.isConstructor() ? 0 : 1;
        }
        is("methods found in the text", found, declared);
    }

    // ---- rule 1

    private void privateNames() {
        Set<String> open = new TreeSet<>();
        for (Source.Method method : methods) {
            if (method.words().startsWith("public ")) {
                open.add(method.name());
            }
        }
        for (Source.Method method : methods) {
            if (method.words().startsWith("private ")) {
                is("1: private, and a public name: " + method.name(),
                        open.contains(method.name()), false);
            }
        }
    }

    // ---- rule 2

    private void classesInside() {
        for (Class<?> own : classes) {
            if (own != NappingViews.class) {
                String name = own.getSimpleName();
                int modifiers = own.getModifiers();
                is("2: a member class " + name, own.isMemberClass(), true);
                is("2: static " + name, Modifier.isStatic(modifiers), true);
                is("1: not open " + name, Modifier.isPublic(modifiers)
                        || Modifier.isProtected(modifiers), false);
            }
        }
        is("2: lambdas", count("->", code), 0);
        is("2: method references", count("::", code), 0);
    }

    // ---- rule 3

    private boolean isAllowed(Class<?> type) {
        if (!type.isArray()) {
            return NUMBERS.contains(type.getName()) || type.getNestHost() == NappingViews.class;
        }
        Class<?> element = type.getComponentType();
        return element.isArray() ? NUMBERS.contains(element.getComponentType().getName())
                : isAllowed(element);
    }

    private void types() {
        for (Class<?> own : classes) {
            for (Field field : own.getDeclaredFields()) {
                is("3: the type of " + own.getSimpleName() + "." + field.getName(),
                        isAllowed(field.getType()) || STATIC_TYPES.contains(
                                field.getType().getName()), true);
            }
            for (Method method : own.getDeclaredMethods()) {
                for (Class<?> type : method.getParameterTypes()) {
                    is("3: an argument of " + method.getName(), isAllowed(type), true);
                }
                Class<?> answer = method.getReturnType();
                is("3: the answer of " + method.getName(),
                        answer == void.class || isAllowed(answer), true);
            }
        }
    }

    // ---- rules 4 and 13

    private void library() {
        for (int i = 0; i < source.length(); i++) {
            if (source.charAt(i) < 1 || source.charAt(i) > 127) {
                is("4: a sign at " + i, (int) source.charAt(i), 127);
            }
        }
        // A name with a small letter behind a great one is a class's, here or of the library.
        Matcher name = Pattern.compile("(?<![\\w.])([A-Z]\\w*[a-z]\\w*)(\\.\\w+)?").matcher(code);
        while (name.find()) {
            boolean known = ownNames.contains(name.group(1)) || EXCEPTIONS.contains(name.group(1))
                    || LIBRARY.contains(name.group());
            is("4: known " + name.group(), known, true);
        }
        for (String word : LEFT_OUT) {
            is("4, 6, 13: the word " + word, count("(?<!\\w)" + word + "(?!\\w)", code), 0);
        }
        is("4: arithmetic that throws", count("Exact\\(", code), 0);
        is("10: texts joined by +", count("\"\\s*\\+|\\+\\s*\"", code), 0);
        divisions();
    }

    // Rule 7: a divisor is looked at before it divides. One is a number that is written out, the
    // other one stands behind a look whether deltas are written.
    private void divisions() {
        Matcher division = Pattern.compile("[/%] ?([^;]*;)").matcher(code);
        while (division.find()) {
            String divisor = division.group(1);
            boolean lookedAt = divisor.matches("[1-9][0-9]*\\);")
                    || divisor.equals("(3.0 * now.log.written);");
            is("7: divided by " + divisor, lookedAt, true);
        }
    }

    // ---- rule 5

    private void staticFields() {
        for (Class<?> own : classes) {
            for (Field field : own.getDeclaredFields()) {
                if (Modifier.isStatic(field.getModifiers()) && !field.isSynthetic()) {
                    is("5: final " + field.getName(), Modifier.isFinal(field.getModifiers()), true);
                    is("5: the type of " + field.getName(),
                            STATIC_TYPES.contains(field.getType().getName()), true);
                }
            }
        }
        is("5: static blocks", count("static\\s*\\{", code), 0);
    }

    // ---- rule 6

    private void exceptions() {
        int throwing = count("(?<!\\w)throw(?!\\w)", code);
        int written = 0;
        Matcher thrown = Pattern.compile(
                "throw new (\\w+)\\((\"[^\"\\\\+]*\")?\\);").matcher(source);
        while (thrown.find()) {
            written++;
            is("6: " + thrown.group(1), EXCEPTIONS.contains(thrown.group(1)), true);
        }
        is("6: each throw is written so", written, throwing);
        for (Source.Method method : methods) {
            if (method.isConstructor()) {
                is("6: a throw in " + method.name(), method.body().contains("throw"), false);
            }
        }
    }

    // ---- rule 9

    private void loops() {
        is("9: loops without a test", count("while \\(true\\)|for \\([^;)]*; *;", code), 0);
        for (Source.Method method : methods) {
            is("8: it calls itself by its name alone: " + method.name(), !method.isConstructor()
                    && count("(?<![\\w.])" + method.name() + "\\(", method.body()) > 0, false);
        }
    }

    // ---- rule 11

    private void sizes() {
        is("11: classes", classes.length <= 12, true);
        for (Class<?> own : classes) {
            int fields = 0;
            for (Field field : own.getDeclaredFields()) {
                fields += Modifier.isStatic(field.getModifiers()) ? 0 : 1;
            }
            is("11: fields of " + own.getSimpleName() + ", " + fields, fields <= 20, true);
            for (Method method : own.getDeclaredMethods()) {
                is("11: arguments of " + method.getName(), method.getParameterCount() <= 7, true);
            }
        }
        for (Source.Method method : methods) {
            int lines = count("\n", method.body()) + 1;
            is("11: lines of " + method.name() + ", " + lines, lines <= 60, true);
        }
    }

    // ---- rule 12: no method makes an object but an exception that it throws, so that a run's room
    // is what its constructors make

    private void objectsAreMadeInConstructors() {
        List<String> makers = new ArrayList<>();
        for (Source.Method method : methods) {
            if (!method.isConstructor()
                    && count("(?<!throw )(?<!\\w)new ", method.body()) > 0) {
                makers.add(method.name());
            }
            is("12: clones or lists in " + method.name(),
                    count("\\.clone\\(|\\bvalues\\(|\\{[^;{}]*\\};", method.body()), 0);
        }
        is("12: methods that make objects", makers.toString(), "[]");
    }
}
