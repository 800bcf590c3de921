/**
 * The hash of the promise 54, worked out from the answers of the calls that its list names. What
 * the buffer holds is told by no call, so it is given.
 */
final class DigestByLooks {
    private static final String[] FIRST = {
        "rows", "deltas", "tick", "wakings", "wakingsByThemselves", "refreshes", "logLength",
        "savedStates"};
    private static final String[] OF_GROUPS = {
        "countOf", "sumOf", "unlikeOf", "rankOf", "countInTable", "sumInTable", "rankInTable"};

    private final RealViews views;
    private long hash = 4373;

    private DigestByLooks(NappingViews x) {
        views = new RealViews(x);
    }

    static long of(NappingViews x, String buffer) {
        DigestByLooks digest = new DigestByLooks(x);
        for (String name : FIRST) {
            digest.addLook(name, 0, 0);
        }
        for (int place = 0; place < 16; place++) {
            digest.addPlace(place);
        }
        for (int view = 0; view < 3; view++) {
            digest.addView(view);
        }
        digest.addEnd(buffer);
        return digest.hash;
    }

    private void add(long value) {
        hash = 31 * hash + value;
    }

    private long addLook(String name, int a, int b) {
        long value = views.call(name, a, b, 0);
        add(value);
        return value;
    }

    private void addPlace(int place) {
        if (addLook("isFree", place, 0) == 0) {
            addLook("groupAt", place, 0);
            addLook("amountAt", place, 0);
        }
    }

    private void addView(int view) {
        for (String name : Looks.OF_VIEWS) {
            addLook(name, view, 0);
        }
        for (int group = 0; group < 4; group++) {
            for (String name : OF_GROUPS) {
                addLook(name, view, group);
            }
            if (views.call("countOf", view, group, 0) > 0) {
                addLook("leastOf", view, group);
                addLook("greatestOf", view, group);
                addLook("medianOf", view, group);
            }
            if (views.call("countInTable", view, group, 0) > 0) {
                addLook("medianInTable", view, group);
            }
        }
    }

    private void addEnd(String buffer) {
        if (addLook("hasStopped", 0, 0) == 1) {
            addLook("stoppedPart", 0, 0);
        }
        addLook("behindShare", 0, 0);
        add(buffer.length());
        for (int i = 0; i < buffer.length(); i++) {
            add(buffer.charAt(i));
        }
    }
}
