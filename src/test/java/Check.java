import java.util.List;

/** Counts the answers that are not the ones that are due, and prints them. */
final class Check {
    interface Call {
        Object answer();
    }

    private final String name;
    private int looked;
    private int wrong;

    Check(String name) {
        this.name = name;
    }

    void is(String what, Object got, Object due) {
        looked++;
        if (!due.equals(got)) {
            wrong++;
            System.out.println(name + ": " + what + " answered " + got + ", due is " + due);
        }
    }

    // The call is to throw just this exception, and to change nothing that the digest tells.
    void fails(String what, NappingViews views, Class<?> due, Call call) {
        long before = views.digest();
        is(what, Looks.outcome(views, x -> call.answer()), due);
        is(what + ", the digest behind it", views.digest(), before);
    }

    // The same, and nothing at all is changed that can be seen of the object.
    void refused(String what, Scenes.Made made, Class<?> due, Scenes.Deed deed) {
        NappingViews x = made.make();
        List<String> before = Looks.at(x);
        is(what, Looks.outcome(x, deed), due);
        is(what + ", the looks behind it", Looks.at(x), before);
        is(what + ", what no look tells", Looks.within(() -> {
            NappingViews y = made.make();
            Looks.outcome(y, deed);
            return y;
        }), Looks.within(made));
    }

    void accepted(String what, Scenes.Made made, Scenes.Deed deed) {
        is(what + " is accepted", Looks.outcome(made.make(), deed) instanceof Integer, true);
    }

    boolean hasWrong() {
        return wrong > 0;
    }

    // Ends the program with 1 if an answer was wrong, or if none was looked at.
    void end() {
        System.out.println(name + ": " + looked + " answers looked at, " + wrong + " wrong");
        if (wrong > 0 || looked == 0) {
            System.exit(1);
        }
    }
}
