import java.util.ArrayList;
import java.util.List;

/**
 * "What it is" and the sentences about every call: looks change nothing, each call is answered up
 * to the 512th one, objects are apart from one another, and the same calls answer the same.
 */
public final class ObjectTest {
    private static final Check CHECK = new Check("ObjectTest");

    // A call by its name, with what it is called with.
    private record Named(String name, int a, int b, int c) {
        Object on(NappingViews x) {
            return Looks.outcome(x, y -> new RealViews(y).call(name, a, b, c));
        }

        @Override
        public String toString() {
            return name + "(" + a + ", " + b + ", " + c + ")";
        }
    }

    // Each call of the face that is no look; right and wrong ones, on Scenes.busy().
    private static final Named[] DEEDS = {
        new Named("insert", 2, 3, -5), new Named("insert", 0, 0, 0), new Named("change", 7, 12, 0),
        new Named("change", 3, 0, 0), new Named("regroup", 7, 0, 0), new Named("regroup", 9, 4, 0),
        new Named("delete", 15, 0, 0), new Named("delete", 16, 0, 0), new Named("nap", 0, 0, 0),
        new Named("nap", 1, 0, 0), new Named("wake", 1, 0, 0), new Named("wake", 0, 0, 0),
        new Named("refresh", 1, 0, 0), new Named("refresh", 3, 0, 0),
        new Named("setFilter", 0, 11, 0), new Named("setFilter", 2, 100, 0),
        new Named("setBehind", 1, 1, 0),
        new Named("setBehind", 1, 31, 0), new Named("setLongest", 1, 1, 0),
        new Named("setLongest", 1, 0, 0), new Named("pass", 30, 0, 0), new Named("pass", 31, 0, 0),
        new Named("append", '5', 0, 0), new Named("append", 32, 0, 0),
        new Named("clearBuffer", 0, 0, 0), new Named("replay", 0, 0, 0), new Named("undo", 0, 0, 0),
        new Named("keep", 0, 0, 0), new Named("restore", 0, 0, 0)};

    private static final Scenes.Made[] SCENES = {
        NappingViews::new, Scenes::busy, Scenes::fullTable, Scenes::allNapping,
        () -> Scenes.typed("i0a5;x1;t2")};

    public static void main(String[] args) {
        looksChangeNothing();
        eachCallIsAnsweredAsThe512th();
        objectsAreApart();
        theSameCallsAnswerTheSame();
        CHECK.end();
    }

    private static void is(String what, Object got, Object due) {
        CHECK.is(what, got, due);
    }

    private static List<Named> looks() {
        List<Named> looks = new ArrayList<>();
        for (String name : Looks.OF_ALL) {
            looks.add(new Named(name, 0, 0, 0));
        }
        for (String name : Looks.OF_PLACES) {
            for (int place = -1; place <= 16; place++) {
                looks.add(new Named(name, place, 0, 0));
            }
        }
        for (int view = -1; view <= 3; view++) {
            for (String name : Looks.OF_VIEWS) {
                looks.add(new Named(name, view, 0, 0));
            }
            for (String name : Looks.OF_GROUPS) {
                for (int group = 0; group < 4; group++) {
                    looks.add(new Named(name, view, group, 7));
                }
            }
        }
        return looks;
    }

    // ---- "looks at the table; nothing is changed", and the other looks, which are not undoable

    private static void looksChangeNothing() {
        for (int scene = 0; scene < SCENES.length; scene++) {
            Scenes.Made made = SCENES[scene];
            List<String> within = Looks.within(made);
            List<String> seen = Looks.at(made.make());
            for (Named look : looks()) {
                String what = look + " on the scene " + scene;
                NappingViews x = made.make();
                Object first = look.on(x);
                is(what + ", again", look.on(x), first);
                is(what + ", the looks behind it", Looks.at(x), seen);
                is(what + ", the text behind it", Looks.outcome(x, NappingViews::replay),
                        Looks.outcome(made.make(), NappingViews::replay));
                is(what + ", within", Looks.within(() -> {
                    NappingViews y = made.make();
                    look.on(y);
                    return y;
                }), within);
            }
        }
    }

    // ---- "An object is used for at most 512 calls after it has been made"

    private static void eachCallIsAnsweredAsThe512th() {
        // Scenes.busy() has made 24 calls.
        int callsBetween = 512 - 24 - 1;
        List<Named> calls = looks();
        calls.addAll(List.of(DEEDS));
        for (Named call : calls) {
            NappingViews x = Scenes.busy();
            for (int i = 0; i < callsBetween; i++) {
                x.rows();
            }
            is("the 512th call: " + call, call.on(x), call.on(Scenes.busy()));
        }
    }

    // ---- an object has its own table, views, buffer, saved states and snapshot

    private static void objectsAreApart() {
        for (Named deed : DEEDS) {
            NappingViews one = Scenes.busy();
            NappingViews other = Scenes.busy();
            List<String> before = Looks.at(one);
            deed.on(other);
            is("another object behind " + deed, Looks.at(one), before);
        }
        NappingViews one = new NappingViews();
        Scenes.busy().keep();
        CHECK.fails("21: the snapshot of another object", one, IllegalStateException.class,
                one::restore);
        CHECK.fails("19: the saved states of another object", one, IllegalStateException.class,
                one::undo);
    }

    // ---- no answer depends on which object it is, or on when it is called

    private static void theSameCallsAnswerTheSame() {
        for (Named deed : DEEDS) {
            NappingViews one = Scenes.busy();
            NappingViews other = Scenes.busy();
            is("the same answer of " + deed, deed.on(one), deed.on(other));
            is("the same looks behind " + deed, Looks.at(one), Looks.at(other));
            is("the same within behind " + deed, Looks.within(() -> busyAnd(deed)),
                    Looks.within(() -> busyAnd(deed)));
        }
    }

    private static NappingViews busyAnd(Named deed) {
        NappingViews x = Scenes.busy();
        deed.on(x);
        return x;
    }
}
