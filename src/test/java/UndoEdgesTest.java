import java.util.List;

/**
 * The sentences of "Undo, the snapshot" that name a boundary case, and those of the promises 19 to
 * 22 that rest on them. Refused calls, and that they save nothing, are in RefusalTest.
 */
public final class UndoEdgesTest {
    private static final Class<?> STATE = IllegalStateException.class;
    private static final Check CHECK = new Check("UndoEdgesTest");

    public static void main(String[] args) {
        eachUndoableCallSaves();
        alsoIfItChangesNothing();
        noOtherCallSaves();
        undoBringsAllBack();
        theBoundsAreBack();
        theLogIsBack();
        theLatestStopIsBack();
        theBufferIsNotBack();
        theSnapshotIsNotBack();
        theSavedStatesAreNotBack();
        atMostFiveAreSaved();
        theOldestIsDroppedFirst();
        undoAnswersHowManyAreLeft();
        savedAgainBehindUndo();
        keepTakesThePlaceOfTheOneBefore();
        theSnapshotStays();
        theSnapshotIsNotChangedByCalls();
        restoreBringsAllButTheBuffer();
        restoreIsUndoable();
        keepOfAFreeAndAFullTable();
        CHECK.end();
    }

    private static void is(String what, Object got, Object due) {
        CHECK.is(what, got, due);
    }

    // Two saved states, so that none is dropped; a snapshot, a stop, and views in all conditions.
    private static NappingViews some() {
        NappingViews x = Scenes.played("i0b5;i1b-7;i2b5;i3b99;x4");
        x.keep();
        Scenes.play(x, "z2;u3=98;t2;z1;x2");
        return x;
    }

    // ---- "Each method that is marked "undoable" and does not throw an exception saves the state
    // from before it"

    private static void saves(String what, Scenes.Deed deed) {
        NappingViews x = some();
        Scenes.type(x, "t1;x9");
        List<String> before = Looks.at(x);
        deed.on(x);
        is("22: " + what + " saves one state", x.savedStates(), 3);
        if (what.startsWith("replay")) {
            Scenes.type(x, "t1;x9");
        }
        is("19: undo of " + what, x.undo(), 2);
        is("19: all is back, " + what, Looks.at(x), before);
        is("19: within too, " + what, Looks.within(() -> {
            NappingViews y = some();
            Scenes.type(y, "t1;x9");
            deed.on(y);
            y.clearBuffer();
            y.undo();
            return y;
        }), Looks.within(UndoEdgesTest::some));
    }

    private static void eachUndoableCallSaves() {
        saves("insert", x -> x.insert(9, 0, 0));
        saves("change", x -> x.change(0, 1));
        saves("regroup", x -> x.regroup(0, 0));
        saves("delete", x -> x.delete(0));
        saves("nap", x -> x.nap(0));
        saves("wake", x -> x.wake(2));
        saves("refresh", x -> x.refresh(2));
        saves("setFilter", x -> x.setFilter(2, 7));
        saves("setBehind", x -> x.setBehind(2, 1));
        saves("setBehind of a view that is awake", x -> x.setBehind(0, 30));
        saves("setLongest", x -> x.setLongest(2, 20));
        saves("pass", x -> x.pass(30));
        saves("replay", NappingViews::replay);
        saves("restore", NappingViews::restore);
    }

    // "(also if it changes nothing)"
    private static void alsoIfItChangesNothing() {
        saves("change to the same", x -> x.change(0, 5));
        saves("regroup to the same", x -> x.regroup(0, 1));
        saves("refresh of a view that is awake", x -> x.refresh(0));
        saves("setFilter to the same", x -> x.setFilter(0, -99));
        saves("setBehind to the same", x -> x.setBehind(0, 10));
        saves("setLongest to the same", x -> x.setLongest(0, 8));
        saves("pass while nobody wakes", x -> x.pass(1));
        NappingViews x = Scenes.played("x0");
        is("22: replay of nothing", x.savedStates(), 1);
        NappingViews y = new NappingViews();
        y.keep();
        is("21: restore of the same", y.restore(), 0);
        is("22: restore of the same", y.savedStates(), 1);
    }

    private static void noOtherCallSaves() {
        NappingViews x = some();
        x.append('t');
        x.firstError();
        x.clearBuffer();
        x.keep();
        Looks.at(x);
        is("22: as before", x.savedStates(), 2);
        x.undo();
        is("22: undo saves none", x.savedStates(), 1);
    }

    // ---- "all, also the log and the latest stop, but the buffer, the saved states and the
    // snapshot"

    private static void undoBringsAllBack() {
        NappingViews x = some();
        List<String> before = Looks.at(x);
        x.pass(30);
        x.nap(0);
        x.delete(1);
        for (int i = 0; i < 3; i++) {
            x.undo();
        }
        is("19: three calls", Looks.at(x), before);
    }

    private static void theBoundsAreBack() {
        NappingViews x = new NappingViews();
        x.setBehind(1, 3);
        x.setLongest(1, 4);
        x.setBehind(1, 5);
        x.setLongest(1, 6);
        x.undo();
        x.undo();
        is("10: the bound before", x.setBehind(1, 7), 3);
        is("11: the bound before", x.setLongest(1, 7), 4);
        for (int i = 0; i < 4; i++) {
            x.undo();
        }
        is("10: the bound at first", x.setBehind(1, 7), 10);
        is("11: the bound at first", x.setLongest(1, 7), 8);
    }

    // The deltas that waited are back as they were, however much was written since.
    private static void theLogIsBack() {
        NappingViews x = Scenes.behindBy(1, 0);
        for (int place = 0; place < 15; place++) {
            x.insert(place, place % 4, place + 10);
        }
        x.insert(15, 3, 5);
        x.keep();
        for (int i = 0; i < 4; i++) {
            Scenes.play(x, "g0b;".repeat(14) + "g0b");
        }
        is("27: written since", x.deltas(), 136);
        for (int i = 0; i < 4; i++) {
            x.undo();
        }
        is("27: undone", x.deltas(), 16);
        is("32: they wait again", x.waiting(1), 16);
        is("38: the log keeps them", x.logLength(), 16);
        is("53: the share", x.behindShare(), 16.0 / 48.0);
        is("7: it sees them", x.wake(1), 16);
        is("40: the group 0", x.sumOf(1, 0), 64);
        is("40: the group 1", x.sumOf(1, 1), 68);
        is("40: the group 2", x.sumOf(1, 2), 72);
        is("40: the group 3", x.sumOf(1, 3), 56);
        for (int i = 0; i < 60; i++) {
            x.change(0, 1);
        }
        x.restore();
        is("32: restored, they wait again", x.waiting(1), 16);
        is("34: restored, they matter again", x.matters(1), 16);
        is("7: restored, it sees them", x.wake(1), 16);
        is("40: restored, the group 0", x.sumOf(1, 0), 64);
        is("40: restored, the group 3", x.sumOf(1, 3), 56);
    }

    private static void theLatestStopIsBack() {
        NappingViews x = new NappingViews();
        Scenes.play(x, "t1;x0");
        Scenes.play(x, "x0");
        Scenes.play(x, "t1");
        is("17: no stop", x.hasStopped(), false);
        x.undo();
        is("18: the stop before", x.stoppedPart(), 0);
        x.undo();
        is("18: the stop before that", x.stoppedPart(), 1);
        x.undo();
        is("17: no stop at first", x.hasStopped(), false);
        CHECK.fails("18: no stop at first", x, STATE, x::stoppedPart);
        x.keep();
        Scenes.play(x, "t1;t1;x0");
        x.restore();
        is("17: no stop in the snapshot", x.hasStopped(), false);
        x.undo();
        is("18: the stop before restore", x.stoppedPart(), 2);
        x.keep();
        Scenes.play(x, "t1");
        x.restore();
        is("18: the stop of the snapshot", x.stoppedPart(), 2);
    }

    private static void theBufferIsNotBack() {
        NappingViews x = Scenes.typed("i0");
        x.pass(1);
        Scenes.type(x, "a5");
        x.undo();
        is("15: it stays as it is", x.firstError(), 4);
        is("16: undo leaves the text", x.replay(), 1);
        x.undo();
        is("14: undo of replay leaves it clear", x.clearBuffer(), 0);
        Scenes.type(x, "x1");
        x.pass(1);
        x.clearBuffer();
        x.undo();
        is("14: cleared, and clear", x.clearBuffer(), 0);
    }

    private static void theSnapshotIsNotBack() {
        NappingViews x = Scenes.rowsIn(0, 1);
        x.keep();
        x.undo();
        is("23: no rows", x.rows(), 0);
        is("21: the snapshot of later", x.restore(), 1);
        x.insert(1, 0, 2);
        x.keep();
        x.undo();
        x.undo();
        is("23: no rows again", x.rows(), 0);
        is("21: the later snapshot", x.restore(), 2);
        NappingViews y = new NappingViews();
        y.keep();
        Scenes.writeDeltas(y, 5);
        for (int i = 0; i < 5; i++) {
            y.undo();
        }
        is("21: there is one behind all undos", y.restore(), 0);
    }

    private static void theSavedStatesAreNotBack() {
        NappingViews x = new NappingViews();
        x.keep();
        x.pass(1);
        x.pass(2);
        x.restore();
        is("22: restore leaves them, and saves one", x.savedStates(), 3);
        x.undo();
        is("28: the state before restore", x.tick(), 3);
        x.undo();
        is("28: the one before that", x.tick(), 1);
        is("22: one left", x.savedStates(), 1);
    }

    // ---- "At most 5 states are saved; the oldest one is dropped first."

    private static void atMostFiveAreSaved() {
        NappingViews x = new NappingViews();
        is("22: at first", x.savedStates(), 0);
        for (int i = 1; i <= 12; i++) {
            x.pass(1);
            is("22: behind " + i, x.savedStates(), Math.min(5, i));
        }
    }

    private static void theOldestIsDroppedFirst() {
        for (int calls = 1; calls <= 12; calls++) {
            NappingViews x = new NappingViews();
            for (int i = 0; i < calls; i++) {
                x.pass(1);
            }
            int most = Math.min(5, calls);
            for (int i = 1; i <= most; i++) {
                is("19: of " + calls + ", left", x.undo(), most - i);
                is("28: of " + calls + ", undone " + i, x.tick(), calls - i);
            }
            CHECK.fails("19: of " + calls + ", none left", x, STATE, x::undo);
            is("28: of " + calls + ", the end", x.tick(), calls - most);
        }
    }

    private static void undoAnswersHowManyAreLeft() {
        NappingViews x = new NappingViews();
        CHECK.fails("19: none at first", x, STATE, x::undo);
        Scenes.writeDeltas(x, 6);
        for (int left = 4; left >= 0; left--) {
            is("19: left", x.undo(), left);
            is("22: left", x.savedStates(), left);
        }
        CHECK.fails("19: no more", x, STATE, x::undo);
    }

    private static void savedAgainBehindUndo() {
        NappingViews x = new NappingViews();
        for (int i = 0; i < 7; i++) {
            x.pass(1);
        }
        x.undo();
        x.undo();
        x.pass(10);
        x.pass(20);
        x.pass(30);
        is("22: five again", x.savedStates(), 5);
        int[] ticks = {35, 15, 5, 4, 3};
        for (int tick : ticks) {
            x.undo();
            is("28: by turns", x.tick(), tick);
        }
        CHECK.fails("19: no more", x, STATE, x::undo);
    }

    // ---- "Takes a snapshot, in place of the one before."

    private static void keepTakesThePlaceOfTheOneBefore() {
        NappingViews x = new NappingViews();
        is("20: no rows", x.keep(), 0);
        x.insert(0, 0, 1);
        is("20: one row", x.keep(), 1);
        x.insert(1, 0, 2);
        is("21: the later one", x.restore(), 1);
        is("26: its row", x.amountAt(0), 1);
        x.delete(0);
        is("20: no rows again", x.keep(), 0);
        x.insert(5, 0, 1);
        is("21: the latest one", x.restore(), 0);
        is("22: keep is not undoable", x.savedStates(), 5);
    }

    // "which stays"
    private static void theSnapshotStays() {
        NappingViews x = Scenes.rowsIn(2, 8, 9);
        x.keep();
        for (int i = 0; i < 4; i++) {
            x.change(0, i);
            x.delete(1);
            is("21: each time", x.restore(), 2);
            is("26: each time", x.amountAt(0), 8);
            is("40: each time", x.sumOf(0, 2), 17);
        }
        x.undo();
        is("21: behind an undo", x.restore(), 2);
    }

    private static void theSnapshotIsNotChangedByCalls() {
        NappingViews x = some();
        x.keep();
        List<String> before = Looks.at(x);
        x.change(0, 77);
        x.nap(0);
        x.pass(30);
        x.setFilter(1, 50);
        x.restore();
        while (x.savedStates() > 2) {
            x.undo();
        }
        x.restore();
        x.undo();
        x.restore();
        List<String> behind = Looks.at(x);
        for (int i = 0; i < before.size(); i++) {
            boolean tellsSaved = before.get(i).startsWith("savedStates")
                    || before.get(i).startsWith("digest");
            if (!tellsSaved) {
                is("21: as it was kept", behind.get(i), before.get(i));
            }
        }
    }

    // ---- "Restores the state of the snapshot"

    private static void restoreBringsAllButTheBuffer() {
        NappingViews x = Scenes.played("z1;i0a5;x9");
        x.setBehind(2, 3);
        x.setLongest(2, 4);
        x.keep();
        x.setBehind(2, 5);
        x.setLongest(2, 6);
        x.pass(9);
        x.setFilter(1, 20);
        x.append('q');
        is("21: the rows then", x.restore(), 1);
        is("14: not the buffer", x.clearBuffer(), 1);
        is("28: the tick", x.tick(), 0);
        is("31: the filter", x.filterOf(1), -99);
        is("29: the nap", x.isNapping(1), true);
        is("32: the log", x.waiting(1), 1);
        is("35: the wakings", x.wakings(), 0);
        is("37: the refreshes", x.refreshes(), 0);
        is("18: the stop", x.stoppedPart(), 2);
        is("10: a bound", x.setBehind(2, 9), 3);
        is("11: the other bound", x.setLongest(2, 9), 4);
    }

    private static void restoreIsUndoable() {
        NappingViews x = Scenes.rowsIn(0, 1);
        x.keep();
        x.insert(1, 1, 2);
        x.nap(2);
        long before = x.digest();
        is("21: one row", x.restore(), 1);
        is("22: four saved", x.savedStates(), 4);
        is("19: undone", x.undo(), 3);
        is("54: all is back", x.digest(), before);
        is("21: one row again", x.restore(), 1);
        Scenes.writeDeltas(x, 9);
        x.restore();
        is("22: five saved", x.savedStates(), 5);
    }

    private static void keepOfAFreeAndAFullTable() {
        NappingViews x = Scenes.fullTable();
        is("20: sixteen", x.keep(), 16);
        x.delete(15);
        is("21: sixteen", x.restore(), 16);
        is("26: the last one too", x.amountAt(15), 45);
        NappingViews y = new NappingViews();
        is("20: none", y.keep(), 0);
        Scenes.insertAll(y, 1, new int[16]);
        is("21: none", y.restore(), 0);
        is("39: none held", y.countOf(0, 1), 0);
        is("27: no deltas", y.deltas(), 0);
    }
}
