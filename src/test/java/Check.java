/** Counts the answers that are not the ones that are due, and prints them. */
final class Check {
    interface Call {
        Object answer();
    }

    private final String name;
    private int looked;
    private int wrong;

    Check(String name) {
        this.name = name;
    }

    void is(String what, Object got, Object due) {
        looked++;
        if (!due.equals(got)) {
            wrong++;
            System.out.println(name + ": " + what + " answered " + got + ", due is " + due);
        }
    }

    // The call is to throw just this exception, and to change nothing that the digest tells.
    void fails(String what, NappingViews views, Class<?> due, Call call) {
        long before = views.digest();
        Object got;
        try {
            got = call.answer();
        } catch (RuntimeException e) {
            got = e.getClass();
        }
        is(what, got, due);
        is(what + ", the digest behind it", views.digest(), before);
    }

    boolean hasWrong() {
        return wrong > 0;
    }

    // Ends the program with 1 if an answer was wrong, or if none was looked at.
    void end() {
        System.out.println(name + ": " + looked + " answers looked at, " + wrong + " wrong");
        if (wrong > 0 || looked == 0) {
            System.exit(1);
        }
    }
}
