import java.util.ArrayList;
import java.util.List;

/** All that can be seen of an object: by looks, which change nothing, and by calls that do. */
final class Looks {
    static final String[] OF_ALL = {
        "hasStopped", "stoppedPart", "savedStates", "rows", "deltas", "tick", "wakings",
        "wakingsByThemselves", "refreshes", "logLength", "behindShare", "firstError", "digest"};
    static final String[] OF_PLACES = {"isFree", "groupAt", "amountAt"};
    static final String[] OF_VIEWS = {
        "isNapping", "napOf", "filterOf", "waiting", "waitingByNumbers", "matters",
        "unlikeGroups", "unlikeIfWoken", "wakesIn"};
    static final String[] OF_GROUPS = {
        "countOf", "sumOf", "leastOf", "greatestOf", "medianOf", "rankOf", "unlikeOf",
        "countInTable", "sumInTable", "medianInTable", "rankInTable"};

    private static final int AMOUNT_OF_RANKS = 10;

    private final RealViews views;
    private final List<String> told = new ArrayList<>();

    private Looks(NappingViews x) {
        views = new RealViews(x);
    }

    /** Every look at the object, with its answer or its exception: 220 calls of its 512. */
    static List<String> at(NappingViews x) {
        Looks looks = new Looks(x);
        for (String name : OF_ALL) {
            looks.tell(name, 0, 0, 0);
        }
        for (String name : OF_PLACES) {
            for (int place = 0; place < 16; place++) {
                looks.tell(name, place, 0, 0);
            }
        }
        for (int view = 0; view < 3; view++) {
            looks.tellView(view);
        }
        return looks.told;
    }

    /** What no look tells: the bounds, the saved states and the snapshot; found out by calls. */
    static List<String> within(Scenes.Made made) {
        List<String> told = new ArrayList<>();
        for (int back = 0; back <= 5; back++) {
            NappingViews x = made.make();
            for (int i = 0; i < back && x.savedStates() > 0; i++) {
                x.undo();
            }
            told.add("undone " + back + ": " + digestAndBounds(x));
        }
        NappingViews x = made.make();
        told.add("restore: " + outcome(x, NappingViews::restore) + ", " + digestAndBounds(x));
        return told;
    }

    /** The answer of a call, or the class of its exception. */
    static Object outcome(NappingViews x, Scenes.Deed deed) {
        try {
            return deed.on(x);
        } catch (RuntimeException e) {
            return e.getClass();
        }
    }

    static String bounds(NappingViews x) {
        StringBuilder told = new StringBuilder("bounds");
        for (int view = 0; view < 3; view++) {
            told.append(' ').append(x.setBehind(view, 30));
            told.append(' ').append(x.setLongest(view, 30));
        }
        return told.toString();
    }

    private static String digestAndBounds(NappingViews x) {
        return x.digest() + ", " + bounds(x);
    }

    private void tellView(int view) {
        for (String name : OF_VIEWS) {
            tell(name, view, 0, 0);
        }
        for (String name : OF_GROUPS) {
            for (int group = 0; group < 4; group++) {
                tell(name, view, group, AMOUNT_OF_RANKS);
            }
        }
    }

    private void tell(String name, int a, int b, int c) {
        told.add(name + " " + a + " " + b + ": " + answer(name, a, b, c));
    }

    private String answer(String name, int a, int b, int c) {
        try {
            return "" + views.call(name, a, b, c);
        } catch (RuntimeException e) {
            return e.getClass().getSimpleName();
        }
    }
}
