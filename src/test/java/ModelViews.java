import java.util.ArrayDeque;
import java.util.ArrayList;
import java.util.Collections;
import java.util.Deque;
import java.util.HashSet;
import java.util.List;
import java.util.regex.Matcher;
import java.util.regex.Pattern;

/**
 * The document told a second time, as plainly as can be: the log is kept whole, a state is copied
 * whole, and texts are read by a regular expression. It shares no code with NappingViews.
 */
final class ModelViews {
    private static final String PLACE = "(1[0-5]|[0-9])";
    private static final String AMOUNT = "(-[1-9][0-9]?|0|[1-9][0-9]?)";
    private static final String PART = "(i" + PLACE + "[a-d]" + AMOUNT + "|u" + PLACE + "=" + AMOUNT
            + "|g" + PLACE + "[a-d]|x" + PLACE + "|t(30|[12][0-9]|[1-9])|[zwr][0-2])";
    private static final Pattern LOG = Pattern.compile(PART + "(;" + PART + ")*");

    record Row(int group, int amount) { }

    record Delta(int group, int amount, boolean comes) { }

    static final class View {
        final List<List<Integer>> held = new ArrayList<>();
        boolean naps;
        int nap;
        int filter = -99;
        int behind = 10;
        int longest = 8;
        int seen;

        View() {
            for (int g = 0; g < 4; g++) {
                held.add(new ArrayList<>());
            }
        }

        View copy() {
            View view = new View();
            for (int g = 0; g < 4; g++) {
                view.held.get(g).addAll(held.get(g));
            }
            view.naps = naps;
            view.nap = nap;
            view.filter = filter;
            view.behind = behind;
            view.longest = longest;
            view.seen = seen;
            return view;
        }

        void see(Delta delta) {
            seen++;
            if (delta.amount < filter) {
                return;
            }
            if (delta.comes) {
                held.get(delta.group).add(delta.amount);
            } else {
                held.get(delta.group).remove((Integer) delta.amount);
            }
        }
    }

    static final class State {
        final Row[] rows = new Row[16];
        final List<Delta> log = new ArrayList<>();
        final View[] views = {new View(), new View(), new View()};
        int tick;
        int wakings;
        int wakingsByThemselves;
        int refreshes;
        int stopped = -1;

        State copy() {
            State state = new State();
            System.arraycopy(rows, 0, state.rows, 0, 16);
            state.log.addAll(log);
            for (int v = 0; v < 3; v++) {
                state.views[v] = views[v].copy();
            }
            state.tick = tick;
            state.wakings = wakings;
            state.wakingsByThemselves = wakingsByThemselves;
            state.refreshes = refreshes;
            state.stopped = stopped;
            return state;
        }
    }

    private State state = new State();
    private State snapshot;
    private final Deque<State> saved = new ArrayDeque<>();
    private final StringBuilder buffer = new StringBuilder();

    // ---- what a call needs

    private static void inBounds(boolean holds) {
        if (!holds) {
            throw new IndexOutOfBoundsException();
        }
    }

    private static void inRange(boolean holds) {
        if (!holds) {
            throw new IllegalArgumentException();
        }
    }

    private static void inState(boolean holds) {
        if (!holds) {
            throw new IllegalStateException();
        }
    }

    private static boolean isPlace(int place) {
        return place >= 0 && place <= 15;
    }

    private static boolean isGroup(int group) {
        return group >= 0 && group <= 3;
    }

    private static boolean isAmount(int amount) {
        return amount >= -99 && amount <= 99;
    }

    private View view(int view) {
        inBounds(view >= 0 && view <= 2);
        return state.views[view];
    }

    private Row row(int place) {
        inBounds(isPlace(place));
        inState(state.rows[place] != null);
        return state.rows[place];
    }

    private void save() {
        saved.addLast(state.copy());
        if (saved.size() > 5) {
            saved.removeFirst();
        }
    }

    // ---- what calls and parts of texts do

    private void write(Delta... deltas) {
        for (Delta delta : deltas) {
            state.log.add(delta);
            for (View view : state.views) {
                if (!view.naps) {
                    view.see(delta);
                }
            }
        }
        wakeLate();
    }

    private int waitingOf(View view) {
        return state.log.size() - view.seen;
    }

    private void wakeLate() {
        for (View view : state.views) {
            if (waitingOf(view) > view.behind) {
                wakeUp(view);
                state.wakingsByThemselves++;
            }
        }
    }

    private void wakeUp(View view) {
        while (view.seen < state.log.size()) {
            view.see(state.log.get(view.seen));
        }
        view.naps = false;
        view.nap = 0;
        state.wakings++;
    }

    private void doInsert(int place, int group, int amount) {
        inBounds(isPlace(place) && isGroup(group));
        inRange(isAmount(amount));
        inState(state.rows[place] == null);
        state.rows[place] = new Row(group, amount);
        write(new Delta(group, amount, true));
    }

    private void doReplace(int place, Row next) {
        Row old = state.rows[place];
        state.rows[place] = next;
        write(new Delta(old.group, old.amount, false), new Delta(next.group, next.amount, true));
    }

    private int doChange(int place, int amount) {
        inBounds(isPlace(place));
        inRange(isAmount(amount));
        Row old = row(place);
        doReplace(place, new Row(old.group, amount));
        return old.amount;
    }

    private int doRegroup(int place, int group) {
        inBounds(isPlace(place) && isGroup(group));
        Row old = row(place);
        doReplace(place, new Row(group, old.amount));
        return old.group;
    }

    private int doDelete(int place) {
        Row old = row(place);
        state.rows[place] = null;
        write(new Delta(old.group, old.amount, false));
        return old.amount;
    }

    private void doNap(int view) {
        View napper = view(view);
        inState(!napper.naps);
        napper.naps = true;
        napper.nap = 0;
        wakeLate();
    }

    private int doWake(int view) {
        View napper = view(view);
        inState(napper.naps);
        int waits = waitingOf(napper);
        wakeUp(napper);
        return waits;
    }

    private int doRefresh(int view) {
        View fresh = view(view);
        int waited = waitingOf(fresh);
        for (int g = 0; g < 4; g++) {
            fresh.held.set(g, tableOf(fresh, g));
        }
        fresh.seen = state.log.size();
        state.refreshes++;
        return waited;
    }

    private int doPass(int ticks) {
        inRange(ticks >= 1 && ticks <= 30);
        int before = state.wakingsByThemselves;
        for (int t = 0; t < ticks; t++) {
            for (View view : state.views) {
                if (view.naps && ++view.nap >= view.longest) {
                    wakeUp(view);
                    state.wakingsByThemselves++;
                }
            }
            state.tick++;
        }
        return state.wakingsByThemselves - before;
    }

    // ---- the calls

    private interface Change {
        int happen();
    }

    // A call that throws changes nothing, so what it began is dropped.
    private int undoable(Change change) {
        State before = state.copy();
        int answer;
        try {
            answer = change.happen();
        } catch (RuntimeException e) {
            state = before;
            throw e;
        }
        State after = state;
        state = before;
        save();
        state = after;
        return answer;
    }

    private void doPart(String part) {
        char kind = part.charAt(0);
        Matcher numbers = Pattern.compile("-?[0-9]+").matcher(part);
        numbers.find();
        int first = Integer.parseInt(numbers.group());
        int last = numbers.find() ? Integer.parseInt(numbers.group()) : 0;
        int group = part.replaceAll("[^a-d]", "").isEmpty() ? 0
                : part.replaceAll("[^a-d]", "").charAt(0) - 'a';
        switch (kind) {
            case 'i' -> doInsert(first, group, last);
            case 'u' -> doChange(first, last);
            case 'g' -> doRegroup(first, group);
            case 'x' -> doDelete(first);
            case 't' -> doPass(first);
            case 'z' -> doNap(first);
            case 'w' -> doWake(first);
            default -> doRefresh(first);
        }
    }

    private int doReplay(String[] parts) {
        state.stopped = -1;
        for (int i = 0; i < parts.length; i++) {
            try {
                doPart(parts[i]);
            } catch (RuntimeException e) {
                state.stopped = i;
                return i;
            }
        }
        return parts.length;
    }

    // Calls by name, so that a run can be told to this and to NappingViews alike.
    long call(String name, int a, int b, int c) {
        return switch (name) {
            case "insert" -> undoable(() -> {
                doInsert(a, b, c);
                return countRows();
            });
            case "change" -> undoable(() -> doChange(a, b));
            case "regroup" -> undoable(() -> doRegroup(a, b));
            case "delete" -> undoable(() -> doDelete(a));
            case "nap" -> undoable(() -> {
                doNap(a);
                return (state.views[0].naps ? 1 : 0) + (state.views[1].naps ? 1 : 0)
                        + (state.views[2].naps ? 1 : 0);
            });
            case "wake" -> undoable(() -> doWake(a));
            case "refresh" -> undoable(() -> doRefresh(a));
            case "setFilter" -> undoable(() -> setFilter(a, b));
            case "setBehind" -> undoable(() -> setBehind(a, b));
            case "setLongest" -> undoable(() -> setLongest(a, b));
            case "pass" -> undoable(() -> doPass(a));
            case "append" -> append(a);
            case "clearBuffer" -> clearBuffer();
            case "firstError" -> firstError();
            case "replay" -> replay();
            case "undo" -> undo();
            case "keep" -> keep();
            case "restore" -> restore();
            default -> look(name, a, b, c);
        };
    }

    private int setFilter(int view, int least) {
        View changed = view(view);
        inRange(isAmount(least));
        int before = changed.filter;
        changed.filter = least;
        doRefresh(view);
        return before;
    }

    private int setBehind(int view, int deltas) {
        View changed = view(view);
        inRange(deltas >= 1 && deltas <= 30);
        int before = changed.behind;
        changed.behind = deltas;
        wakeLate();
        return before;
    }

    private int setLongest(int view, int ticks) {
        View changed = view(view);
        inRange(ticks >= 1 && ticks <= 30);
        int before = changed.longest;
        changed.longest = ticks;
        return before;
    }

    private int append(int code) {
        inRange(code >= 33 && code <= 126);
        inState(buffer.length() < 60);
        buffer.append((char) code);
        return buffer.length();
    }

    private int clearBuffer() {
        int before = buffer.length();
        buffer.setLength(0);
        return before;
    }

    private int firstError() {
        for (int i = 0; i < buffer.length(); i++) {
            Matcher matcher = LOG.matcher(buffer.substring(0, i + 1));
            if (!matcher.matches() && !matcher.hitEnd()) {
                return i;
            }
        }
        return buffer.length();
    }

    private int replay() {
        inRange(LOG.matcher(buffer).matches());
        String[] parts = buffer.toString().split(";");
        buffer.setLength(0);
        return undoable(() -> doReplay(parts));
    }

    private int undo() {
        inState(!saved.isEmpty());
        state = saved.removeLast();
        return saved.size();
    }

    private int keep() {
        snapshot = state.copy();
        return countRows();
    }

    private int restore() {
        inState(snapshot != null);
        return undoable(() -> {
            state = snapshot.copy();
            return countRows();
        });
    }

    // ---- looks

    private int countRows() {
        int count = 0;
        for (Row row : state.rows) {
            count += row == null ? 0 : 1;
        }
        return count;
    }

    private long look(String name, int a, int b, int c) {
        return switch (name) {
            case "hasStopped" -> state.stopped >= 0 ? 1 : 0;
            case "stoppedPart" -> {
                inState(state.stopped >= 0);
                yield state.stopped;
            }
            case "savedStates" -> saved.size();
            case "rows" -> countRows();
            case "isFree" -> {
                inBounds(isPlace(a));
                yield state.rows[a] == null ? 1 : 0;
            }
            case "groupAt" -> row(a).group;
            case "amountAt" -> row(a).amount;
            case "deltas" -> state.log.size();
            case "tick" -> state.tick;
            case "wakings" -> state.wakings;
            case "wakingsByThemselves" -> state.wakingsByThemselves;
            case "refreshes" -> state.refreshes;
            case "logLength" -> logLength();
            case "behindShare" -> Double.doubleToLongBits(behindShare());
            case "digest" -> digest();
            default -> lookAtView(name, view(a), b, c);
        };
    }

    private long lookAtView(String name, View view, int b, int c) {
        return switch (name) {
            case "isNapping" -> view.naps ? 1 : 0;
            case "napOf" -> view.naps ? view.nap : 0;
            case "filterOf" -> view.filter;
            case "waiting", "waitingByNumbers" -> waitingOf(view);
            case "matters" -> matters(view);
            case "unlikeGroups" -> unlike(view);
            case "unlikeIfWoken" -> unlikeIfWoken(view);
            case "wakesIn" -> view.naps ? Math.max(1, view.longest - view.nap) : 0;
            default -> lookAtGroup(name, view, b, c);
        };
    }

    private long lookAtGroup(String name, View view, int group, int amount) {
        inBounds(isGroup(group));
        List<Integer> told = new ArrayList<>(
                name.endsWith("InTable") ? tableOf(view, group) : view.held.get(group));
        Collections.sort(told);
        switch (name.replace("InTable", "").replace("Of", "")) {
            case "count":
                return told.size();
            case "sum":
                return sum(told);
            case "rank":
                inRange(isAmount(amount));
                return told.stream().filter(held -> held < amount).count();
            case "unlike":
                return new HashSet<>(told).size();
            case "least":
                inState(!told.isEmpty());
                return told.get(0);
            case "greatest":
                inState(!told.isEmpty());
                return told.get(told.size() - 1);
            case "median":
                inState(!told.isEmpty());
                return told.get((told.size() - 1) / 2);
            default:
                throw new UnsupportedOperationException(name);
        }
    }

    private List<Integer> tableOf(View view, int group) {
        List<Integer> told = new ArrayList<>();
        for (Row row : state.rows) {
            if (row != null && row.group == group && row.amount >= view.filter) {
                told.add(row.amount);
            }
        }
        return told;
    }

    private static int sum(List<Integer> amounts) {
        return amounts.stream().mapToInt(amount -> amount).sum();
    }

    private int matters(View view) {
        int count = 0;
        for (int d = view.seen; d < state.log.size(); d++) {
            count += state.log.get(d).amount >= view.filter ? 1 : 0;
        }
        return count;
    }

    private static List<Integer> all(List<Integer> amounts) {
        List<Integer> told = new ArrayList<>(amounts);
        Collections.sort(told);
        List<Integer> answers = new ArrayList<>(List.of(told.size(), sum(told)));
        if (!told.isEmpty()) {
            answers.add(told.get(0));
            answers.add(told.get(told.size() - 1));
            answers.add(told.get((told.size() - 1) / 2));
        }
        answers.add(new HashSet<>(told).size());
        return answers;
    }

    private int unlike(View view) {
        int mask = 0;
        for (int g = 0; g < 4; g++) {
            if (!all(view.held.get(g)).equals(all(tableOf(view, g)))) {
                mask += 1 << g;
            }
        }
        return mask;
    }

    private int unlikeIfWoken(View view) {
        if (!view.naps) {
            return 0;
        }
        View woken = view.copy();
        while (woken.seen < state.log.size()) {
            woken.see(state.log.get(woken.seen));
        }
        return unlike(woken);
    }

    private int logLength() {
        int least = state.log.size();
        for (View view : state.views) {
            least = Math.min(least, view.seen);
        }
        return state.log.size() - least;
    }

    private double behindShare() {
        if (state.log.isEmpty()) {
            return 0.0;
        }
        int behind = 0;
        for (View view : state.views) {
            behind += waitingOf(view);
        }
        return (double) behind / (3 * state.log.size());
    }

    private long digest() {
        List<Long> values = new ArrayList<>();
        for (String name : List.of("rows", "deltas", "tick", "wakings", "wakingsByThemselves",
                "refreshes", "logLength", "savedStates")) {
            values.add(look(name, 0, 0, 0));
        }
        for (Row row : state.rows) {
            values.add(row == null ? 1L : 0L);
            if (row != null) {
                values.add((long) row.group);
                values.add((long) row.amount);
            }
        }
        for (int v = 0; v < 3; v++) {
            for (String name : List.of("isNapping", "napOf", "filterOf", "waiting",
                    "waitingByNumbers", "matters", "unlikeGroups", "unlikeIfWoken", "wakesIn")) {
                values.add(look(name, v, 0, 0));
            }
            for (int g = 0; g < 4; g++) {
                addGroup(values, v, g);
            }
        }
        values.add(look("hasStopped", 0, 0, 0));
        if (state.stopped >= 0) {
            values.add((long) state.stopped);
        }
        values.add(Double.doubleToLongBits(behindShare()));
        values.add((long) buffer.length());
        for (char code : buffer.toString().toCharArray()) {
            values.add((long) code);
        }
        long hash = 4373;
        for (long value : values) {
            hash = 31 * hash + value;
        }
        return hash;
    }

    private void addGroup(List<Long> values, int v, int g) {
        for (String name : List.of("countOf", "sumOf", "unlikeOf", "rankOf", "countInTable",
                "sumInTable", "rankInTable")) {
            values.add(look(name, v, g, 0));
        }
        if (!state.views[v].held.get(g).isEmpty()) {
            for (String name : List.of("leastOf", "greatestOf", "medianOf")) {
                values.add(look(name, v, g, 0));
            }
        }
        if (look("countInTable", v, g, 0) > 0) {
            values.add(look("medianInTable", v, g, 0));
        }
    }
}
