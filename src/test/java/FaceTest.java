import java.lang.reflect.Constructor;
import java.lang.reflect.Field;
import java.lang.reflect.Member;
import java.lang.reflect.Method;
import java.lang.reflect.Modifier;
import java.util.Set;
import java.util.TreeSet;

/** The class has the document's face, and nothing beside it that is not private. */
public final class FaceTest {
    private static final String BOUNDS = "IndexOutOfBoundsException";
    private static final String ARGUMENT = "IllegalArgumentException";
    private static final String STATE = "IllegalStateException";

    private static final String[] FACE = {
        "int insert(int,int,int) " + BOUNDS + " " + ARGUMENT + " " + STATE,
        "int change(int,int) " + BOUNDS + " " + ARGUMENT + " " + STATE,
        "int regroup(int,int) " + BOUNDS + " " + STATE,
        "int delete(int) " + BOUNDS + " " + STATE,
        "int nap(int) " + BOUNDS + " " + STATE,
        "int wake(int) " + BOUNDS + " " + STATE,
        "int refresh(int) " + BOUNDS,
        "int setFilter(int,int) " + BOUNDS + " " + ARGUMENT,
        "int setBehind(int,int) " + BOUNDS + " " + ARGUMENT,
        "int setLongest(int,int) " + BOUNDS + " " + ARGUMENT,
        "int pass(int) " + ARGUMENT,
        "int append(int) " + ARGUMENT + " " + STATE,
        "int clearBuffer()",
        "int firstError()",
        "int replay() " + ARGUMENT,
        "boolean hasStopped()",
        "int stoppedPart() " + STATE,
        "int undo() " + STATE,
        "int keep()",
        "int restore() " + STATE,
        "int savedStates()",
        "int rows()",
        "boolean isFree(int) " + BOUNDS,
        "int groupAt(int) " + BOUNDS + " " + STATE,
        "int amountAt(int) " + BOUNDS + " " + STATE,
        "int deltas()",
        "int tick()",
        "boolean isNapping(int) " + BOUNDS,
        "int napOf(int) " + BOUNDS,
        "int filterOf(int) " + BOUNDS,
        "int waiting(int) " + BOUNDS,
        "int waitingByNumbers(int) " + BOUNDS,
        "int matters(int) " + BOUNDS,
        "int wakings()",
        "int wakingsByThemselves()",
        "int refreshes()",
        "int logLength()",
        "int countOf(int,int) " + BOUNDS,
        "int sumOf(int,int) " + BOUNDS,
        "int leastOf(int,int) " + BOUNDS + " " + STATE,
        "int greatestOf(int,int) " + BOUNDS + " " + STATE,
        "int medianOf(int,int) " + BOUNDS + " " + STATE,
        "int rankOf(int,int,int) " + BOUNDS + " " + ARGUMENT,
        "int unlikeOf(int,int) " + BOUNDS,
        "int countInTable(int,int) " + BOUNDS,
        "int sumInTable(int,int) " + BOUNDS,
        "int medianInTable(int,int) " + BOUNDS + " " + STATE,
        "int rankInTable(int,int,int) " + BOUNDS + " " + ARGUMENT,
        "int unlikeGroups(int) " + BOUNDS,
        "int unlikeIfWoken(int) " + BOUNDS,
        "int wakesIn(int) " + BOUNDS,
        "double behindShare()",
        "long digest()",
    };

    public static void main(String[] args) {
        Check check = new Check("FaceTest");
        checkClass(check);
        checkMethods(check);
        checkPrivateNames(check);
        check.end();
    }

    private static void checkClass(Check check) {
        int modifiers = NappingViews.class.getModifiers();
        check.is("the class is public", Modifier.isPublic(modifiers), true);
        check.is("the class is final", Modifier.isFinal(modifiers), true);
        Constructor<?>[] constructors = NappingViews.class.getDeclaredConstructors();
        check.is("constructors", constructors.length, 1);
        check.is("it takes nothing", constructors[0].getParameterCount(), 0);
        check.is("it is public", Modifier.isPublic(constructors[0].getModifiers()), true);
        check.is("it declares no exception", constructors[0].getExceptionTypes().length, 0);
        for (Field field : NappingViews.class.getDeclaredFields()) {
            check.is(field.getName() + " is private", isHidden(field), true);
            boolean loose = Modifier.isStatic(field.getModifiers())
                    && !Modifier.isFinal(field.getModifiers());
            check.is(field.getName() + " is static and not final", loose, false);
        }
        for (Class<?> inner : NappingViews.class.getDeclaredClasses()) {
            check.is(inner.getName() + " is public or protected", Modifier.isPublic(
                    inner.getModifiers()) || Modifier.isProtected(inner.getModifiers()), false);
        }
    }

    private static void checkMethods(Check check) {
        Set<String> wanted = new TreeSet<>(Set.of(FACE));
        Set<String> found = new TreeSet<>();
        for (Method method : NappingViews.class.getDeclaredMethods()) {
            if (!isHidden(method)) {
                found.add(told(method));
            }
        }
        for (String face : wanted) {
            check.is("there is " + face, found.contains(face), true);
        }
        for (String face : found) {
            check.is("the document has " + face, wanted.contains(face), true);
        }
    }

    private static void checkPrivateNames(Check check) {
        Set<String> open = new TreeSet<>();
        for (Method method : NappingViews.class.getMethods()) {
            open.add(method.getName());
        }
        for (Method method : NappingViews.class.getDeclaredMethods()) {
            if (isHidden(method)) {
                check.is(method.getName() + " is also a public name",
                        open.contains(method.getName()), false);
            }
        }
    }

    private static boolean isHidden(Member member) {
        return member.isSynthetic() || Modifier.isPrivate(member.getModifiers());
    }

    private static String told(Method method) {
        StringBuilder text = new StringBuilder();
        text.append(method.getReturnType().getName()).append(' ').append(method.getName());
        text.append('(');
        for (int i = 0; i < method.getParameterCount(); i++) {
            text.append(i == 0 ? "" : ",").append(method.getParameterTypes()[i].getName());
        }
        text.append(')');
        for (Class<?> type : method.getExceptionTypes()) {
            text.append(' ').append(type.getSimpleName());
        }
        return text.toString();
    }
}
