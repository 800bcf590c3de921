/**
 * Drowsyview: a table of rows, a log of deltas, and three views that follow the table at once, or
 * nap and fall behind. The document ../shared/DOC.md says what each call does.
 */
public final class NappingViews {

    private static final int PLACES = 16;
    private static final int GROUPS = 4;
    private static final int VIEWS = 3;
    private static final int LEAST_AMOUNT = -99;
    private static final int GREATEST_AMOUNT = 99;
    private static final int GREATEST_BOUND = 30;
    private static final int GREATEST_PASS = 30;
    private static final int FIRST_BEHIND = 10;
    private static final int FIRST_LONGEST = 8;
    private static final int TEXT_ROOM = 60;
    private static final int FIRST_CODE = 33;
    private static final int LAST_CODE = 126;
    private static final int SAVED_ROOM = 5;
    private static final int FREE = -1;
    private static final int NO_STOP = -1;
    private static final int NO_DIGIT = -1;
    private static final int COMES = 1;
    private static final int GOES = -1;
    private static final long FIRST_HASH = 4373L;

    // A ring, so a power of two: at most 30 deltas wait between calls, and a call (or a part of a
    // text) writes at most 2 before the views that are too far behind wake.
    private static final int LOG_ROOM = 64;

    private State now;
    private final State[] saved;
    private int savedCount;
    private final State snapshot;
    private boolean hasSnapshot;
    private final LogText text;
    // Made once and used again: a run's calls share one room.
    private final Amounts tableAmounts;
    private final View wokenView;

    public NappingViews() {
        now = new State();
        saved = new State[SAVED_ROOM];
        for (int i = 0; i < saved.length; i++) {
            saved[i] = new State();
        }
        savedCount = 0;
        snapshot = new State();
        hasSnapshot = false;
        text = new LogText();
        tableAmounts = new Amounts();
        wokenView = new View();
    }

    // ---- the table

    public int insert(int place, int group, int amount)
            throws IndexOutOfBoundsException, IllegalArgumentException, IllegalStateException {
        requirePlace(place);
        requireGroup(group);
        requireAmount(amount);
        if (!now.table.freeAt(place)) {
            throw new IllegalStateException("the place is not free");
        }
        saveState();
        now.addRow(place, group, amount);
        return now.table.countRows();
    }

    public int change(int place, int amount)
            throws IndexOutOfBoundsException, IllegalArgumentException, IllegalStateException {
        requirePlace(place);
        requireAmount(amount);
        requireRow(place);
        saveState();
        int previous = now.table.amounts[place];
        now.replaceRow(place, now.table.groups[place], amount);
        return previous;
    }

    public int regroup(int place, int group)
            throws IndexOutOfBoundsException, IllegalStateException {
        requirePlace(place);
        requireGroup(group);
        requireRow(place);
        saveState();
        int previous = now.table.groups[place];
        now.replaceRow(place, group, now.table.amounts[place]);
        return previous;
    }

    public int delete(int place) throws IndexOutOfBoundsException, IllegalStateException {
        requirePlace(place);
        requireRow(place);
        saveState();
        int previous = now.table.amounts[place];
        now.removeRow(place);
        return previous;
    }

    // ---- views

    public int nap(int view) throws IndexOutOfBoundsException, IllegalStateException {
        requireView(view);
        if (now.views[view].napping) {
            throw new IllegalStateException("the view naps");
        }
        saveState();
        now.views[view].beginNap();
        return now.countNapping();
    }

    public int wake(int view) throws IndexOutOfBoundsException, IllegalStateException {
        requireView(view);
        if (!now.views[view].napping) {
            throw new IllegalStateException("the view is awake");
        }
        saveState();
        int seen = now.views[view].countWaiting(now.log);
        now.wakeView(now.views[view]);
        return seen;
    }

    public int refresh(int view) throws IndexOutOfBoundsException {
        requireView(view);
        saveState();
        int waited = now.views[view].countWaiting(now.log);
        now.refreshView(now.views[view]);
        return waited;
    }

    public int setFilter(int view, int least)
            throws IndexOutOfBoundsException, IllegalArgumentException {
        requireView(view);
        requireAmount(least);
        saveState();
        int previous = now.views[view].filter;
        now.views[view].filter = least;
        now.refreshView(now.views[view]);
        return previous;
    }

    public int setBehind(int view, int deltas)
            throws IndexOutOfBoundsException, IllegalArgumentException {
        requireView(view);
        requireBound(deltas);
        saveState();
        int previous = now.views[view].mostBehind;
        now.views[view].mostBehind = deltas;
        now.wakeViewsTooFarBehind();
        return previous;
    }

    public int setLongest(int view, int ticks)
            throws IndexOutOfBoundsException, IllegalArgumentException {
        requireView(view);
        requireBound(ticks);
        saveState();
        int previous = now.views[view].longestNap;
        now.views[view].longestNap = ticks;
        return previous;
    }

    public int pass(int ticks) throws IllegalArgumentException {
        if (ticks < 1 || ticks > GREATEST_PASS) {
            throw new IllegalArgumentException("the ticks are not 1 to 30");
        }
        saveState();
        return now.passTicks(ticks);
    }

    // ---- texts

    public int append(int code) throws IllegalArgumentException, IllegalStateException {
        if (code < FIRST_CODE || code > LAST_CODE) {
            throw new IllegalArgumentException("the code is not 33 to 126");
        }
        if (text.length >= TEXT_ROOM) {
            throw new IllegalStateException("the buffer is full");
        }
        text.addSign(code);
        return text.length;
    }

    public int clearBuffer() {
        int previous = text.length;
        text.length = 0;
        return previous;
    }

    public int firstError() {
        text.readWhole();
        return text.at;
    }

    public int replay() throws IllegalArgumentException {
        if (!text.readWhole()) {
            throw new IllegalArgumentException("the buffer is not a complete log");
        }
        saveState();
        text.at = 0;
        now.stoppedAt = NO_STOP;
        int happened = 0;
        while (happened < TEXT_ROOM && now.stoppedAt == NO_STOP && text.readNextPart()) {
            if (now.letHappen(text)) {
                happened++;
            } else {
                now.stoppedAt = happened;
            }
        }
        text.length = 0;
        return happened;
    }

    public boolean hasStopped() {
        return now.stoppedAt != NO_STOP;
    }

    public int stoppedPart() throws IllegalStateException {
        if (now.stoppedAt == NO_STOP) {
            throw new IllegalStateException("the latest replay did not stop");
        }
        return now.stoppedAt;
    }

    // ---- undo, the snapshot

    public int undo() throws IllegalStateException {
        if (savedCount < 1 || savedCount > saved.length) {
            throw new IllegalStateException("there is no saved state");
        }
        savedCount--;
        now.copyFrom(saved[savedCount]);
        return savedCount;
    }

    public int keep() {
        snapshot.copyFrom(now);
        hasSnapshot = true;
        return now.table.countRows();
    }

    public int restore() throws IllegalStateException {
        if (!hasSnapshot) {
            throw new IllegalStateException("there is no snapshot");
        }
        saveState();
        now.copyFrom(snapshot);
        return now.table.countRows();
    }

    public int savedStates() {
        return savedCount;
    }

    // ---- looks at the table; nothing is changed

    public int rows() {
        return now.table.countRows();
    }

    public boolean isFree(int place) throws IndexOutOfBoundsException {
        requirePlace(place);
        return now.table.freeAt(place);
    }

    public int groupAt(int place) throws IndexOutOfBoundsException, IllegalStateException {
        requirePlace(place);
        requireRow(place);
        return now.table.groups[place];
    }

    public int amountAt(int place) throws IndexOutOfBoundsException, IllegalStateException {
        requirePlace(place);
        requireRow(place);
        return now.table.amounts[place];
    }

    public int deltas() {
        return now.log.written;
    }

    public int tick() {
        return now.ticksPassed;
    }

    // ---- looks at views

    public boolean isNapping(int view) throws IndexOutOfBoundsException {
        requireView(view);
        return now.views[view].napping;
    }

    public int napOf(int view) throws IndexOutOfBoundsException {
        requireView(view);
        return now.views[view].napTicks;
    }

    public int filterOf(int view) throws IndexOutOfBoundsException {
        requireView(view);
        return now.views[view].filter;
    }

    public int waiting(int view) throws IndexOutOfBoundsException {
        requireView(view);
        return now.views[view].countWaitingFrom(now.log, LEAST_AMOUNT);
    }

    public int waitingByNumbers(int view) throws IndexOutOfBoundsException {
        requireView(view);
        return now.views[view].countWaiting(now.log);
    }

    public int matters(int view) throws IndexOutOfBoundsException {
        requireView(view);
        return now.views[view].countWaitingFrom(now.log, now.views[view].filter);
    }

    public int wakings() {
        return now.wakingCount;
    }

    public int wakingsByThemselves() {
        return now.ownWakingCount;
    }

    public int refreshes() {
        return now.refreshCount;
    }

    public int logLength() {
        int longest = 0;
        for (int v = 0; v < VIEWS; v++) {
            longest = Math.max(longest, now.views[v].countWaiting(now.log));
        }
        return longest;
    }

    // ---- what views tell

    public int countOf(int view, int group) throws IndexOutOfBoundsException {
        return heldBy(view, group).count;
    }

    public int sumOf(int view, int group) throws IndexOutOfBoundsException {
        return heldBy(view, group).total();
    }

    public int leastOf(int view, int group)
            throws IndexOutOfBoundsException, IllegalStateException {
        Amounts held = heldBy(view, group);
        requireAmounts(held);
        return held.first();
    }

    public int greatestOf(int view, int group)
            throws IndexOutOfBoundsException, IllegalStateException {
        Amounts held = heldBy(view, group);
        requireAmounts(held);
        return held.last();
    }

    public int medianOf(int view, int group)
            throws IndexOutOfBoundsException, IllegalStateException {
        Amounts held = heldBy(view, group);
        requireAmounts(held);
        return held.middle();
    }

    public int rankOf(int view, int group, int amount)
            throws IndexOutOfBoundsException, IllegalArgumentException {
        Amounts held = heldBy(view, group);
        requireAmount(amount);
        return held.countBelow(amount);
    }

    public int unlikeOf(int view, int group) throws IndexOutOfBoundsException {
        return heldBy(view, group).countUnlike();
    }

    // ---- what the table tells

    public int countInTable(int view, int group) throws IndexOutOfBoundsException {
        return inTable(view, group).count;
    }

    public int sumInTable(int view, int group) throws IndexOutOfBoundsException {
        return inTable(view, group).total();
    }

    public int medianInTable(int view, int group)
            throws IndexOutOfBoundsException, IllegalStateException {
        Amounts told = inTable(view, group);
        requireAmounts(told);
        return told.middle();
    }

    public int rankInTable(int view, int group, int amount)
            throws IndexOutOfBoundsException, IllegalArgumentException {
        Amounts told = inTable(view, group);
        requireAmount(amount);
        return told.countBelow(amount);
    }

    public int unlikeGroups(int view) throws IndexOutOfBoundsException {
        requireView(view);
        return unlikeMask(now.views[view]);
    }

    public int unlikeIfWoken(int view) throws IndexOutOfBoundsException {
        requireView(view);
        if (!now.views[view].napping) {
            return 0;
        }
        wokenView.copyFrom(now.views[view]);
        wokenView.seeWaiting(now.log);
        return unlikeMask(wokenView);
    }

    public int wakesIn(int view) throws IndexOutOfBoundsException {
        requireView(view);
        View napper = now.views[view];
        if (!napper.napping) {
            return 0;
        }
        // A bound may have become shorter than the nap already is: then the next tick wakes it.
        return Math.max(1, napper.longestNap - napper.napTicks);
    }

    public double behindShare() {
        if (now.log.written == 0) {
            return 0.0;
        }
        int behind = 0;
        for (int v = 0; v < VIEWS; v++) {
            behind += now.views[v].countWaiting(now.log);
        }
        return (double) behind / (3.0 * now.log.written);
    }

    public long digest() {
        long hash = hashOfNumbers(FIRST_HASH);
        for (int place = 0; place < PLACES; place++) {
            hash = hashOfPlace(hash, place);
        }
        for (int view = 0; view < VIEWS; view++) {
            hash = hashOfView(hash, view);
            for (int group = 0; group < GROUPS; group++) {
                hash = hashOfGroup(hash, view, group);
            }
        }
        hash = hashWith(hash, bit(hasStopped()));
        if (hasStopped()) {
            hash = hashWith(hash, now.stoppedAt);
        }
        hash = hashWith(hash, bitsOfShare(behindShare()));
        return text.hashOfSigns(hashWith(hash, text.length));
    }

    // ---- parts of the digest

    private long hashOfNumbers(long before) {
        long hash = hashWith(before, rows());
        hash = hashWith(hash, deltas());
        hash = hashWith(hash, tick());
        hash = hashWith(hash, wakings());
        hash = hashWith(hash, wakingsByThemselves());
        hash = hashWith(hash, refreshes());
        hash = hashWith(hash, logLength());
        return hashWith(hash, savedStates());
    }

    private long hashOfPlace(long before, int place) {
        long hash = hashWith(before, bit(isFree(place)));
        if (isFree(place)) {
            return hash;
        }
        hash = hashWith(hash, groupAt(place));
        return hashWith(hash, amountAt(place));
    }

    private long hashOfView(long before, int view) {
        long hash = hashWith(before, bit(isNapping(view)));
        hash = hashWith(hash, napOf(view));
        hash = hashWith(hash, filterOf(view));
        hash = hashWith(hash, waiting(view));
        hash = hashWith(hash, waitingByNumbers(view));
        hash = hashWith(hash, matters(view));
        hash = hashWith(hash, unlikeGroups(view));
        hash = hashWith(hash, unlikeIfWoken(view));
        return hashWith(hash, wakesIn(view));
    }

    private long hashOfGroup(long before, int view, int group) {
        Amounts held = heldBy(view, group);
        Amounts told = inTable(view, group);
        long hash = hashWith(before, held.count);
        hash = hashWith(hash, held.total());
        hash = hashWith(hash, held.countUnlike());
        hash = hashWith(hash, held.countBelow(0));
        hash = hashWith(hash, told.count);
        hash = hashWith(hash, told.total());
        hash = hashWith(hash, told.countBelow(0));
        if (held.count > 0) {
            hash = hashWith(hash, held.first());
            hash = hashWith(hash, held.last());
            hash = hashWith(hash, held.middle());
        }
        if (told.count > 0) {
            hash = hashWith(hash, told.middle());
        }
        return hash;
    }

    private static long hashWith(long hash, long value) {
        return 31L * hash + value;
    }

    private static long bit(boolean value) {
        return value ? 1L : 0L;
    }

    // The bits that Double.doubleToLongBits gives; LANGUAGE.md leaves that call out. A share is 0,
    // or from about 2 to the power of -33 up to 1, so 64 doublings are plenty, and all is exact.
    private static long bitsOfShare(double share) {
        if (!(share > 0.0)) {
            return 0L;
        }
        double scaled = share;
        long exponent = 1023L;
        for (int i = 0; i < 64 && scaled < 1.0; i++) {
            scaled = scaled * 2.0;
            exponent--;
        }
        long fraction = (long) ((scaled - 1.0) * 4503599627370496.0);
        return (exponent << 52) + fraction;
    }

    // ---- what the calls need

    private static void requirePlace(int place) {
        if (place < 0 || place >= PLACES) {
            throw new IndexOutOfBoundsException("there is no such place");
        }
    }

    private static void requireGroup(int group) {
        if (group < 0 || group >= GROUPS) {
            throw new IndexOutOfBoundsException("there is no such group");
        }
    }

    private static void requireView(int view) {
        if (view < 0 || view >= VIEWS) {
            throw new IndexOutOfBoundsException("there is no such view");
        }
    }

    private static void requireAmount(int amount) {
        if (amount < LEAST_AMOUNT || amount > GREATEST_AMOUNT) {
            throw new IllegalArgumentException("the amount is not -99 to 99");
        }
    }

    private static void requireBound(int bound) {
        if (bound < 1 || bound > GREATEST_BOUND) {
            throw new IllegalArgumentException("the bound is not 1 to 30");
        }
    }

    private void requireRow(int place) {
        if (now.table.freeAt(place)) {
            throw new IllegalStateException("the place is free");
        }
    }

    private static void requireAmounts(Amounts amounts) {
        if (amounts.count < 1) {
            throw new IllegalStateException("the group has no amounts");
        }
    }

    // ---- what the calls share

    private Amounts heldBy(int view, int group) {
        requireView(view);
        requireGroup(group);
        return now.views[view].held[group];
    }

    // The answer stands until the next call of this or of unlikeMask.
    private Amounts inTable(int view, int group) {
        requireView(view);
        requireGroup(group);
        tableAmounts.takeFrom(now.table, group, now.views[view].filter);
        return tableAmounts;
    }

    private int unlikeMask(View view) {
        int mask = 0;
        for (int group = 0; group < GROUPS; group++) {
            tableAmounts.takeFrom(now.table, group, view.filter);
            if (!tableAmounts.tellsLike(view.held[group])) {
                mask |= 1 << group;
            }
        }
        return mask;
    }

    private void saveState() {
        if (savedCount >= saved.length) {
            dropOldestSaved();
        }
        saved[savedCount].copyFrom(now);
        savedCount++;
    }

    // The dropped state goes to the end, where the next one is written over it.
    private void dropOldestSaved() {
        State oldest = saved[0];
        for (int i = 1; i < saved.length; i++) {
            saved[i - 1] = saved[i];
        }
        saved[saved.length - 1] = oldest;
        savedCount = saved.length - 1;
    }

    /** Amounts of one group by size, each as often as there are rows with it. */
    private static final class Amounts {
        final int[] bySize = new int[PLACES];
        int count;

        void copyFrom(Amounts other) {
            System.arraycopy(other.bySize, 0, bySize, 0, bySize.length);
            count = other.count;
        }

        void takeFrom(Table table, int group, int filter) {
            count = 0;
            for (int place = 0; place < PLACES; place++) {
                if (table.groups[place] == group && table.amounts[place] >= filter) {
                    add(table.amounts[place]);
                }
            }
        }

        void add(int amount) {
            if (count >= bySize.length) {
                return;
            }
            int at = count;
            while (at > 0 && bySize[at - 1] > amount) {
                bySize[at] = bySize[at - 1];
                at--;
            }
            bySize[at] = amount;
            count++;
        }

        void remove(int amount) {
            int at = 0;
            while (at < count && bySize[at] != amount) {
                at++;
            }
            if (at >= count) {
                return;
            }
            count--;
            for (int i = at; i < count; i++) {
                bySize[i] = bySize[i + 1];
            }
        }

        int total() {
            int sum = 0;
            for (int i = 0; i < count; i++) {
                sum += bySize[i];
            }
            return sum;
        }

        int first() {
            return valueAt(0);
        }

        int last() {
            return valueAt(count - 1);
        }

        int middle() {
            return valueAt((count - 1) / 2);
        }

        private int valueAt(int at) {
            if (at < 0 || at >= count) {
                return 0;
            }
            return bySize[at];
        }

        int countBelow(int amount) {
            int below = 0;
            while (below < count && bySize[below] < amount) {
                below++;
            }
            return below;
        }

        int countUnlike() {
            int unlike = 0;
            for (int i = 0; i < count; i++) {
                if (i == 0 || bySize[i] != bySize[i - 1]) {
                    unlike++;
                }
            }
            return unlike;
        }

        boolean tellsLike(Amounts other) {
            return count == other.count
                    && total() == other.total()
                    && first() == other.first()
                    && last() == other.last()
                    && middle() == other.middle()
                    && countUnlike() == other.countUnlike();
        }
    }

    /** The places for rows; a free place has the group FREE. */
    private static final class Table {
        final int[] groups = new int[PLACES];
        final int[] amounts = new int[PLACES];

        Table() {
            for (int place = 0; place < groups.length; place++) {
                groups[place] = FREE;
            }
        }

        void copyFrom(Table other) {
            System.arraycopy(other.groups, 0, groups, 0, groups.length);
            System.arraycopy(other.amounts, 0, amounts, 0, amounts.length);
        }

        boolean freeAt(int place) {
            return place < 0 || place >= groups.length || groups[place] == FREE;
        }

        int countRows() {
            int count = 0;
            for (int group : groups) {
                if (group != FREE) {
                    count++;
                }
            }
            return count;
        }
    }

    /** The latest deltas, by number; older ones wait for no view, and are written over. */
    private static final class Log {
        final int[] groups = new int[LOG_ROOM];
        final int[] amounts = new int[LOG_ROOM];
        final int[] steps = new int[LOG_ROOM];
        int written;

        void copyFrom(Log other) {
            System.arraycopy(other.groups, 0, groups, 0, groups.length);
            System.arraycopy(other.amounts, 0, amounts, 0, amounts.length);
            System.arraycopy(other.steps, 0, steps, 0, steps.length);
            written = other.written;
        }

        void write(int group, int amount, int step) {
            int slot = slotOf(written);
            groups[slot] = group;
            amounts[slot] = amount;
            steps[slot] = step;
            written++;
        }

        static int slotOf(int number) {
            return number & (LOG_ROOM - 1);
        }
    }

    /** What a view holds, how far it has come in the log, its nap, its filter and its bounds. */
    private static final class View {
        final Amounts[] held = new Amounts[GROUPS];
        int filter = LEAST_AMOUNT;
        int mostBehind = FIRST_BEHIND;
        int longestNap = FIRST_LONGEST;
        boolean napping;
        int napTicks;
        // The number of the first delta that waits for the view, or would.
        int nextDelta;

        View() {
            for (int group = 0; group < held.length; group++) {
                held[group] = new Amounts();
            }
        }

        void copyFrom(View other) {
            for (int group = 0; group < GROUPS; group++) {
                held[group].copyFrom(other.held[group]);
            }
            filter = other.filter;
            mostBehind = other.mostBehind;
            longestNap = other.longestNap;
            napping = other.napping;
            napTicks = other.napTicks;
            nextDelta = other.nextDelta;
        }

        // Nothing waits for a view that is awake, so its nap never ends as it begins.
        void beginNap() {
            napping = true;
            napTicks = 0;
        }

        void endNap() {
            napping = false;
            napTicks = 0;
        }

        int countWaiting(Log log) {
            return log.written - nextDelta;
        }

        int countWaitingFrom(Log log, int least) {
            int count = 0;
            for (int number = nextDelta; number < log.written; number++) {
                if (log.amounts[Log.slotOf(number)] >= least) {
                    count++;
                }
            }
            return count;
        }

        void seeWaiting(Log log) {
            for (int number = nextDelta; number < log.written; number++) {
                int slot = Log.slotOf(number);
                int group = log.groups[slot];
                int amount = log.amounts[slot];
                if (amount >= filter && group >= 0 && group < GROUPS) {
                    if (log.steps[slot] == COMES) {
                        held[group].add(amount);
                    } else {
                        held[group].remove(amount);
                    }
                }
            }
            nextDelta = log.written;
        }

        void holdWhatTableTells(Table table, Log log) {
            for (int group = 0; group < GROUPS; group++) {
                held[group].takeFrom(table, group, filter);
            }
            nextDelta = log.written;
        }
    }

    /** All that is saved, kept and restored: all but the buffer, the saved states, the snapshot. */
    private static final class State {
        final Table table = new Table();
        final Log log = new Log();
        final View[] views = new View[VIEWS];
        int ticksPassed;
        int wakingCount;
        int ownWakingCount;
        int refreshCount;
        int stoppedAt = NO_STOP;

        State() {
            for (int v = 0; v < views.length; v++) {
                views[v] = new View();
            }
        }

        void copyFrom(State other) {
            table.copyFrom(other.table);
            log.copyFrom(other.log);
            for (int v = 0; v < VIEWS; v++) {
                views[v].copyFrom(other.views[v]);
            }
            ticksPassed = other.ticksPassed;
            wakingCount = other.wakingCount;
            ownWakingCount = other.ownWakingCount;
            refreshCount = other.refreshCount;
            stoppedAt = other.stoppedAt;
        }

        // Places, groups and amounts were looked at before a row is added, replaced or removed.

        void addRow(int place, int group, int amount) {
            table.groups[place] = group;
            table.amounts[place] = amount;
            writeDelta(group, amount, COMES);
            wakeViewsTooFarBehind();
        }

        void replaceRow(int place, int group, int amount) {
            writeDelta(table.groups[place], table.amounts[place], GOES);
            table.groups[place] = group;
            table.amounts[place] = amount;
            writeDelta(group, amount, COMES);
            wakeViewsTooFarBehind();
        }

        void removeRow(int place) {
            int group = table.groups[place];
            table.groups[place] = FREE;
            writeDelta(group, table.amounts[place], GOES);
            wakeViewsTooFarBehind();
        }

        private void writeDelta(int group, int amount, int step) {
            log.write(group, amount, step);
            for (int v = 0; v < VIEWS; v++) {
                if (!views[v].napping) {
                    views[v].seeWaiting(log);
                }
            }
        }

        void wakeViewsTooFarBehind() {
            for (int v = 0; v < VIEWS; v++) {
                if (views[v].napping && views[v].countWaiting(log) > views[v].mostBehind) {
                    wakeView(views[v]);
                    ownWakingCount++;
                }
            }
        }

        void wakeView(View view) {
            view.seeWaiting(log);
            view.endNap();
            wakingCount++;
        }

        void refreshView(View view) {
            view.holdWhatTableTells(table, log);
            refreshCount++;
        }

        int countNapping() {
            int count = 0;
            for (int v = 0; v < VIEWS; v++) {
                if (views[v].napping) {
                    count++;
                }
            }
            return count;
        }

        int passTicks(int ticks) {
            int before = ownWakingCount;
            for (int i = 0; i < ticks; i++) {
                passTick();
            }
            return ownWakingCount - before;
        }

        private void passTick() {
            for (int v = 0; v < VIEWS; v++) {
                View view = views[v];
                if (view.napping) {
                    view.napTicks++;
                    if (view.napTicks >= view.longestNap) {
                        wakeView(view);
                        ownWakingCount++;
                    }
                }
            }
            ticksPassed++;
        }

        // Tells whether the part happens: not, if the method would throw an exception for it.
        boolean letHappen(LogText part) {
            if (part.kind == 't') {
                passTicks(part.number);
                return true;
            }
            if (part.kind == 'z' || part.kind == 'w' || part.kind == 'r') {
                return letHappenToView(part);
            }
            int place = part.number;
            if (place < 0 || place >= PLACES || table.freeAt(place) != (part.kind == 'i')) {
                return false;
            }
            switch (part.kind) {
                case 'i':
                    addRow(place, part.group, part.amount);
                    break;
                case 'u':
                    replaceRow(place, table.groups[place], part.amount);
                    break;
                case 'g':
                    replaceRow(place, part.group, table.amounts[place]);
                    break;
                default:
                    removeRow(place);
                    break;
            }
            return true;
        }

        private boolean letHappenToView(LogText part) {
            if (part.number < 0 || part.number >= VIEWS) {
                return false;
            }
            View view = views[part.number];
            if (part.kind == 'r') {
                refreshView(view);
                return true;
            }
            if (view.napping != (part.kind == 'w')) {
                return false;
            }
            if (part.kind == 'w') {
                wakeView(view);
            } else {
                view.beginNap();
            }
            return true;
        }
    }

    /**
     * The buffer, and a reader that goes through it from left to right. The reader takes a sign only
     * if a log as a text can go on with it, so where it stops is the first syntax error, or the end.
     */
    private static final class LogText {
        final char[] signs = new char[TEXT_ROOM];
        int length;
        int at;
        // The part that was read last; number is its place, its ticks or its view.
        int kind;
        int number;
        int group;
        int amount;

        void addSign(int code) {
            if (length < signs.length) {
                signs[length] = (char) code;
                length++;
            }
        }

        long hashOfSigns(long before) {
            long hash = before;
            for (int i = 0; i < length && i < signs.length; i++) {
                hash = hashWith(hash, signs[i]);
            }
            return hash;
        }

        // Tells whether the buffer is a complete log as a text.
        boolean readWhole() {
            at = 0;
            for (int part = 0; part < TEXT_ROOM; part++) {
                if (!readPart()) {
                    return false;
                }
                if (at >= length) {
                    return true;
                }
                if (!readSign(';')) {
                    return false;
                }
            }
            return false;
        }

        // For a text that is complete: tells whether there was one more part.
        boolean readNextPart() {
            if (at > 0 && !readSign(';')) {
                return false;
            }
            return readPart();
        }

        private boolean readPart() {
            if (at >= length || at >= signs.length) {
                return false;
            }
            kind = signs[at];
            switch (kind) {
                case 'i':
                    at++;
                    return readNumber(0, PLACES - 1) && readGroup() && readAmount();
                case 'u':
                    at++;
                    return readNumber(0, PLACES - 1) && readSign('=') && readAmount();
                case 'g':
                    at++;
                    return readNumber(0, PLACES - 1) && readGroup();
                case 'x':
                    at++;
                    return readNumber(0, PLACES - 1);
                case 't':
                    at++;
                    return readNumber(1, GREATEST_PASS);
                case 'z':
                case 'w':
                case 'r':
                    at++;
                    return readNumber(0, VIEWS - 1);
                default:
                    return false;
            }
        }

        private boolean readSign(char sign) {
            if (at >= length || at >= signs.length || signs[at] != sign) {
                return false;
            }
            at++;
            return true;
        }

        private boolean readGroup() {
            if (at >= length || at >= signs.length || signs[at] < 'a' || signs[at] > 'd') {
                return false;
            }
            group = signs[at] - 'a';
            at++;
            return true;
        }

        private boolean readAmount() {
            int before = number;
            boolean negative = readSign('-');
            boolean read = readNumber(negative ? 1 : 0, GREATEST_AMOUNT);
            amount = negative ? -number : number;
            number = before;
            return read;
        }

        // Reads a number of one or two digits; least is 0 or 1, greatest below 100.
        private boolean readNumber(int least, int greatest) {
            int digit = digitAhead();
            if (digit < least || digit > greatest) {
                return false;
            }
            number = digit;
            at++;
            int next = digitAhead();
            if (digit != 0 && next != NO_DIGIT && 10 * digit + next <= greatest) {
                number = 10 * digit + next;
                at++;
            }
            return true;
        }

        private int digitAhead() {
            if (at >= length || at >= signs.length || signs[at] < '0' || signs[at] > '9') {
                return NO_DIGIT;
            }
            return signs[at] - '0';
        }
    }
}
