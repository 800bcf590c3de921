/**
 * Each promise of the document by itself: ordinary inputs, the edges that the document names, and
 * wrong inputs. The answers are worked out by hand.
 */
public final class PromiseTest {
    private static final Class<?> BOUNDS = IndexOutOfBoundsException.class;
    private static final Class<?> ARGUMENT = IllegalArgumentException.class;
    private static final Class<?> STATE = IllegalStateException.class;
    private static final Check CHECK = new Check("PromiseTest");

    public static void main(String[] args) {
        newObject();
        insert();
        change();
        regroup();
        delete();
        nap();
        wake();
        refresh();
        setFilter();
        setBehind();
        boundOfDeltas();
        setLongest();
        pass();
        append();
        clearBuffer();
        firstError();
        completeTexts();
        replay();
        replayOfEachPart();
        hasStopped();
        stoppedPart();
        undo();
        undoOfEachCall();
        keep();
        restore();
        savedStates();
        rows();
        isFree();
        groupAt();
        amountAt();
        deltas();
        tick();
        isNapping();
        napOf();
        filterOf();
        waiting();
        matters();
        wakingCounts();
        refreshes();
        logLength();
        whatViewsTell();
        whatTheTableTells();
        wrongLooks();
        unlikeGroups();
        unlikeIfWoken();
        wakesIn();
        behindShare();
        digest();
        CHECK.end();
    }

    private static void is(String what, Object got, Object due) {
        CHECK.is(what, got, due);
    }

    private static void fails(String what, NappingViews x, Class<?> due, Check.Call call) {
        CHECK.fails(what, x, due, call);
    }

    private static void type(NappingViews x, String text) {
        x.clearBuffer();
        Scenes.type(x, text);
    }

    private static NappingViews typed(String text) {
        return Scenes.typed(text);
    }

    // Rows 0 to 3 in the group 1, with the amounts 5, -7, 5 and 99.
    private static NappingViews fourRows() {
        return Scenes.rowsIn(1, 5, -7, 5, 99);
    }

    // A view 0 that naps, and for which the deltas wait.
    private static NappingViews behindBy(int deltas) {
        return Scenes.behindBy(0, deltas);
    }

    // ---- promise 1

    private static void newObject() {
        NappingViews x = new NappingViews();
        is("1: rows", x.rows(), 0);
        is("1: tick", x.tick(), 0);
        is("1: deltas", x.deltas(), 0);
        is("1: saved states", x.savedStates(), 0);
        is("1: wakings", x.wakings() + x.wakingsByThemselves() + x.refreshes(), 0);
        is("1: buffer", x.clearBuffer(), 0);
        is("1: stop", x.hasStopped(), false);
        for (int place = 0; place < 16; place++) {
            is("1: place " + place, x.isFree(place), true);
        }
        for (int view = 0; view < 3; view++) {
            is("1: view " + view, x.isNapping(view), false);
            is("1: filter", x.filterOf(view), -99);
            is("1: first bound", x.setBehind(view, 10), 10);
            is("1: second bound", x.setLongest(view, 8), 8);
            for (int group = 0; group < 4; group++) {
                is("1: held", x.countOf(view, group), 0);
            }
        }
        NappingViews y = new NappingViews();
        fails("1: no snapshot", y, STATE, y::restore);
        fails("1: no saved state", y, STATE, y::undo);
    }

    // ---- promises 2 to 5: the table

    private static void insert() {
        NappingViews x = new NappingViews();
        is("2: first row", x.insert(0, 0, -99), 1);
        is("2: last place", x.insert(15, 3, 99), 2);
        is("2: deltas", x.deltas(), 2);
        is("2: group", x.groupAt(15), 3);
        is("2: amount", x.amountAt(0), -99);
        is("2: saved", x.savedStates(), 2);
        is("2: the view follows", x.sumOf(2, 3), 99);
        fails("2: place -1", x, BOUNDS, () -> x.insert(-1, 0, 100));
        fails("2: place 16", x, BOUNDS, () -> x.insert(16, 0, 0));
        fails("2: group -1", x, BOUNDS, () -> x.insert(0, -1, 100));
        fails("2: group 4", x, BOUNDS, () -> x.insert(0, 4, 0));
        fails("2: group 4 at a free place", x, BOUNDS, () -> x.insert(1, 4, 0));
        fails("2: least place", x, BOUNDS, () -> x.insert(Integer.MIN_VALUE, 0, 0));
        fails("2: greatest place", x, BOUNDS, () -> x.insert(Integer.MAX_VALUE, 0, 0));
        fails("2: amount -100", x, ARGUMENT, () -> x.insert(0, 0, -100));
        fails("2: amount 100", x, ARGUMENT, () -> x.insert(1, 0, 100));
        fails("2: not free", x, STATE, () -> x.insert(0, 0, 0));
        for (int place = 1; place < 15; place++) {
            is("2: row " + place, x.insert(place, place % 4, place), place + 2);
        }
        is("2: a full table", x.rows(), 16);
    }

    private static void change() {
        NappingViews x = new NappingViews();
        x.insert(15, 2, 7);
        is("3: previous", x.change(15, -99), 7);
        is("3: the same again", x.change(15, -99), -99);
        is("3: two deltas each", x.deltas(), 5);
        is("3: the greatest", x.change(15, 99), -99);
        is("3: amount", x.amountAt(15), 99);
        is("3: the group stays", x.groupAt(15), 2);
        is("3: the view follows", x.sumOf(0, 2), 99);
        is("3: count", x.countOf(0, 2), 1);
        is("3: saved", x.savedStates(), 4);
        fails("3: place -1", x, BOUNDS, () -> x.change(-1, 100));
        fails("3: place 16", x, BOUNDS, () -> x.change(16, 0));
        fails("3: amount 100 at a free place", x, ARGUMENT, () -> x.change(0, 100));
        fails("3: amount -100", x, ARGUMENT, () -> x.change(15, -100));
        fails("3: free", x, STATE, () -> x.change(0, 0));
    }

    private static void regroup() {
        NappingViews x = new NappingViews();
        x.insert(3, 0, 7);
        is("4: previous", x.regroup(3, 3), 0);
        is("4: the same again", x.regroup(3, 3), 3);
        is("4: two deltas each", x.deltas(), 5);
        is("4: group", x.groupAt(3), 3);
        is("4: the amount stays", x.amountAt(3), 7);
        is("4: the old group", x.countOf(1, 0), 0);
        is("4: the new group", x.sumOf(1, 3), 7);
        is("4: saved", x.savedStates(), 3);
        fails("4: place -1", x, BOUNDS, () -> x.regroup(-1, 0));
        fails("4: place 16", x, BOUNDS, () -> x.regroup(16, 0));
        fails("4: group -1 at a free place", x, BOUNDS, () -> x.regroup(0, -1));
        fails("4: group 4", x, BOUNDS, () -> x.regroup(3, 4));
        fails("4: free", x, STATE, () -> x.regroup(0, 0));
    }

    private static void delete() {
        NappingViews x = fourRows();
        is("5: its amount", x.delete(2), 5);
        is("5: one delta", x.deltas(), 5);
        is("5: free", x.isFree(2), true);
        is("5: rows", x.rows(), 3);
        is("5: one of two 5 goes", x.countOf(0, 1), 3);
        is("5: the other stays", x.unlikeOf(0, 1), 3);
        is("5: saved", x.savedStates(), 5);
        fails("5: place -1", x, BOUNDS, () -> x.delete(-1));
        fails("5: place 16", x, BOUNDS, () -> x.delete(16));
        fails("5: free by now", x, STATE, () -> x.delete(2));
        fails("5: free", x, STATE, () -> x.delete(15));
        is("5: insert again", x.insert(2, 0, 0), 4);
    }

    // ---- promises 6 to 12: views

    private static void nap() {
        NappingViews x = new NappingViews();
        is("6: one", x.nap(1), 1);
        is("6: two", x.nap(0), 2);
        is("6: three", x.nap(2), 3);
        is("6: saved", x.savedStates(), 3);
        x.insert(0, 0, 4);
        is("6: it falls behind", x.countOf(1, 0), 0);
        is("6: waiting", x.waiting(1), 1);
        fails("6: view -1", x, BOUNDS, () -> x.nap(-1));
        fails("6: view 3", x, BOUNDS, () -> x.nap(3));
        fails("6: it naps", x, STATE, () -> x.nap(1));
        x.pass(3);
        x.wake(1);
        x.nap(1);
        is("6: a new nap is 0 long", x.napOf(1), 0);
    }

    private static void wake() {
        NappingViews x = new NappingViews();
        x.setFilter(0, 50);
        x.nap(0);
        x.insert(0, 0, 60);
        x.insert(1, 0, 40);
        x.change(0, 70);
        is("7: deltas below the filter too", x.wake(0), 4);
        is("7: awake", x.isNapping(0), false);
        is("7: sum", x.sumOf(0, 0), 70);
        is("7: wakings", x.wakings(), 1);
        is("7: not by itself", x.wakingsByThemselves(), 0);
        is("7: saved", x.savedStates(), 5);
        fails("7: awake already", x, STATE, () -> x.wake(0));
        fails("7: view -1", x, BOUNDS, () -> x.wake(-1));
        fails("7: view 3", x, BOUNDS, () -> x.wake(3));
        x.nap(2);
        is("7: nothing waits", x.wake(2), 0);
        is("7: it counts all the same", x.wakings(), 2);
    }

    private static void refresh() {
        NappingViews x = new NappingViews();
        x.nap(2);
        x.pass(3);
        x.insert(0, 0, 60);
        x.change(0, 61);
        is("8: three waited", x.refresh(2), 3);
        is("8: the nap goes on", x.napOf(2), 3);
        is("8: it naps", x.isNapping(2), true);
        is("8: it holds", x.sumOf(2, 0), 61);
        is("8: none waits", x.waiting(2), 0);
        is("8: count", x.refreshes(), 1);
        is("8: no waking", x.wakings(), 0);
        is("8: awake", x.refresh(0), 0);
        is("8: it stays awake", x.isNapping(0), false);
        is("8: saved", x.savedStates(), 5);
        fails("8: view -1", x, BOUNDS, () -> x.refresh(-1));
        fails("8: view 3", x, BOUNDS, () -> x.refresh(3));
    }

    private static void setFilter() {
        NappingViews x = fourRows();
        is("9: previous", x.setFilter(1, 5), -99);
        is("9: the filter itself is taken", x.countOf(1, 1), 3);
        is("9: other views", x.countOf(0, 1), 4);
        x.change(1, 5);
        is("9: it is taken from a delta too", x.countOf(1, 1), 4);
        x.change(1, 4);
        is("9: one less is not", x.countOf(1, 1), 3);
        is("9: one above", x.setFilter(1, 6), 5);
        is("9: fewer", x.countOf(1, 1), 1);
        is("9: refreshes", x.refreshes(), 2);
        x.nap(1);
        x.change(0, 50);
        is("9: greatest", x.setFilter(1, 99), 6);
        is("9: it naps on", x.isNapping(1), true);
        is("9: none waits", x.waiting(1), 0);
        is("9: least", x.setFilter(1, -99), 99);
        is("9: all", x.sumOf(1, 1), 158);
        is("9: saved", x.savedStates(), 5);
        fails("9: view -1", x, BOUNDS, () -> x.setFilter(-1, 100));
        fails("9: view 3", x, BOUNDS, () -> x.setFilter(3, 0));
        fails("9: -100", x, ARGUMENT, () -> x.setFilter(0, -100));
        fails("9: 100", x, ARGUMENT, () -> x.setFilter(0, 100));
    }

    private static void setBehind() {
        NappingViews x = behindBy(6);
        is("10: previous", x.setBehind(0, 6), 30);
        is("10: as many may wait", x.isNapping(0), true);
        is("10: one fewer", x.setBehind(0, 5), 6);
        is("10: it wakes by itself", x.isNapping(0), false);
        is("10: by itself", x.wakingsByThemselves(), 1);
        is("10: wakings", x.wakings(), 1);
        is("10: none waits", x.waiting(0), 0);
        is("10: saved", x.savedStates(), 5);
        is("10: least", x.setBehind(0, 1), 5);
        is("10: other views", x.setBehind(2, 30), 10);
        fails("10: view -1", x, BOUNDS, () -> x.setBehind(-1, 0));
        fails("10: view 3", x, BOUNDS, () -> x.setBehind(3, 1));
        fails("10: 0", x, ARGUMENT, () -> x.setBehind(0, 0));
        fails("10: 31", x, ARGUMENT, () -> x.setBehind(0, 31));
        is("10: a call that throws leaves it", x.setBehind(0, 2), 1);
    }

    private static void boundOfDeltas() {
        NappingViews x = new NappingViews();
        x.nap(0);
        x.insert(0, 0, 1);
        for (int i = 0; i < 4; i++) {
            x.change(0, i);
        }
        x.insert(1, 0, 1);
        is("10: 10 may wait at first", x.waiting(0), 10);
        x.change(0, 9);
        is("10: 12 wake it", x.isNapping(0), false);
        is("10: it saw both deltas of the call", x.sumOf(0, 0), 10);
        NappingViews y = behindBy(30);
        is("10: 30 may wait", y.waiting(0), 30);
        y.insert(0, 3, 8);
        is("10: 31 may not", y.waiting(0), 0);
        is("10: held", y.sumOf(0, 3), 8);
        is("10: by itself", y.wakingsByThemselves(), 1);
        NappingViews z = fourRows();
        z.setBehind(1, 1);
        z.nap(1);
        z.delete(0);
        is("10: one may wait", z.isNapping(1), true);
        z.delete(1);
        is("10: a delete wakes it too", z.isNapping(1), false);
        z.nap(1);
        z.regroup(2, 0);
        is("10: so does a regroup", z.isNapping(1), false);
    }

    private static void setLongest() {
        NappingViews x = new NappingViews();
        x.nap(0);
        x.pass(5);
        is("11: previous", x.setLongest(0, 3), 8);
        is("11: not before the next tick", x.isNapping(0), true);
        is("11: one tick", x.pass(1), 1);
        is("11: awake", x.isNapping(0), false);
        is("11: greatest", x.setLongest(0, 30), 3);
        is("11: least", x.setLongest(0, 1), 30);
        is("11: other views", x.setLongest(1, 8), 8);
        is("11: saved", x.savedStates(), 5);
        x.nap(0);
        is("11: a nap of one tick", x.pass(1), 1);
        fails("11: view -1", x, BOUNDS, () -> x.setLongest(-1, 0));
        fails("11: view 3", x, BOUNDS, () -> x.setLongest(3, 1));
        fails("11: 0", x, ARGUMENT, () -> x.setLongest(0, 0));
        fails("11: 31", x, ARGUMENT, () -> x.setLongest(0, 31));
        is("11: a call that throws leaves it", x.setLongest(0, 2), 1);
    }

    private static void pass() {
        NappingViews x = new NappingViews();
        is("12: nobody naps", x.pass(1), 0);
        x.nap(0);
        x.nap(1);
        x.insert(0, 0, 3);
        is("12: seven", x.pass(7), 0);
        is("12: nap", x.napOf(1), 7);
        x.nap(2);
        is("12: the eighth tick wakes two", x.pass(1), 2);
        is("12: they saw the delta", x.sumOf(1, 0), 3);
        is("12: the third naps", x.napOf(2), 1);
        is("12: tick", x.tick(), 9);
        is("12: thirty", x.pass(30), 1);
        is("12: tick then", x.tick(), 39);
        is("12: by themselves", x.wakingsByThemselves(), 3);
        is("12: wakings", x.wakings(), 3);
        x.undo();
        is("12: one call for undo", x.tick(), 9);
        fails("12: 0", x, ARGUMENT, () -> x.pass(0));
        fails("12: 31", x, ARGUMENT, () -> x.pass(31));
        fails("12: -1", x, ARGUMENT, () -> x.pass(-1));
    }

    // ---- promises 13 to 18: texts

    private static void append() {
        NappingViews x = new NappingViews();
        is("13: least code", x.append(33), 1);
        is("13: greatest code", x.append(126), 2);
        fails("13: 32", x, ARGUMENT, () -> x.append(32));
        fails("13: 127", x, ARGUMENT, () -> x.append(127));
        fails("13: -1", x, ARGUMENT, () -> x.append(-1));
        fails("13: 65536 more than a code", x, ARGUMENT, () -> x.append(65536 + 'i'));
        for (int i = 3; i <= 60; i++) {
            is("13: length", x.append('x'), i);
        }
        fails("13: full", x, STATE, () -> x.append('x'));
        fails("13: full, and no code", x, ARGUMENT, () -> x.append(32));
        is("13: not undoable", x.savedStates(), 0);
    }

    private static void clearBuffer() {
        NappingViews x = typed("i0a5");
        is("14: length", x.clearBuffer(), 4);
        is("14: then", x.clearBuffer(), 0);
        is("14: not undoable", x.savedStates(), 0);
        is("14: append again", x.append('i'), 1);
        is("14: no error", x.firstError(), 1);
    }

    // The text, and the index of its first syntax error.
    private static void errorAt(String text, int due) {
        NappingViews x = typed(text);
        long before = x.digest();
        is("15: " + text, x.firstError(), due);
        is("15: nothing is changed by " + text, x.digest(), before);
    }

    private static void firstError() {
        errorAt("", 0);
        errorAt(";", 0);
        errorAt("I", 0);
        errorAt("0", 0);
        for (String begin : new String[] {"i", "u", "g", "x", "t", "z", "w", "r"}) {
            errorAt(begin, 1);
            errorAt(begin + ";", 1);
            errorAt(begin + "-1", 1);
            errorAt(begin + "x", 1);
        }
        errorAt("i15a0", 5);
        errorAt("i16a0", 2);
        errorAt("i20a0", 2);
        errorAt("i9a0", 4);
        errorAt("i00a0", 2);
        errorAt("i01", 2);
        errorAt("i100", 3);
        errorAt("i0e", 2);
        errorAt("i0A", 2);
        errorAt("i0d-99", 6);
        errorAt("i0d99", 5);
        errorAt("i0d999", 5);
        errorAt("i0d-0", 4);
        errorAt("i0d--1", 4);
        errorAt("i0d-", 4);
        errorAt("i0d05", 4);
        errorAt("i0d0;", 5);
        errorAt("i0d-100", 6);
        errorAt("u0", 2);
        errorAt("u3=0", 4);
        errorAt("u15=-1", 6);
        errorAt("u3a", 2);
        errorAt("u16=1", 2);
        errorAt("u17=1", 2);
        errorAt("u3==", 3);
        errorAt("g15b", 4);
        errorAt("g15b0", 4);
        errorAt("g3=", 2);
        errorAt("g16b", 2);
        errorAt("g17b", 2);
        errorAt("g3e", 2);
        errorAt("x15", 3);
        errorAt("x16", 2);
        errorAt("x17", 2);
        errorAt("i17a1", 2);
        errorAt("x1;x0", 5);
        errorAt("x1;;", 3);
        errorAt("x1,x0", 2);
        errorAt("t0", 1);
        errorAt("t30", 3);
        errorAt("t31", 2);
        errorAt("t40", 2);
        errorAt("t4;", 3);
        errorAt("t300", 3);
        errorAt("z2", 2);
        errorAt("z3", 1);
        errorAt("z10", 2);
        errorAt("w2;r2;z2", 8);
        errorAt("w3", 1);
        errorAt("r9", 1);
        errorAt("x0;q", 3);
    }

    private static void complete(String text, boolean due) {
        NappingViews x = typed(text);
        if (!due) {
            fails("16: " + text, x, ARGUMENT, x::replay);
            is("16: the buffer stays: " + text, x.clearBuffer(), text.length());
            return;
        }
        x.replay();
        is("16: the buffer is clear behind " + text, x.clearBuffer(), 0);
        is("16: saved by " + text, x.savedStates(), 1);
    }

    private static void completeTexts() {
        for (String text : new String[] {
            "", ";", "i", "i0", "i0a", "i0a-", "u", "u0", "u0=", "u0=-",
            "g", "g0", "x", "t", "z", "w", "r", "x0;", ";x0", "x0;;x0", "x00", "x16", "t0",
            "t31", "z3", "i0a-0", "i0a100", "i0e1", "X0", "x0;i1"}) {
            complete(text, false);
        }
        for (String text : new String[] {"i0a0", "i15d-99", "u10=99", "g15d", "x15", "t1", "t30",
            "z0", "w1", "r2", "x0;x1", "x1", "i1a1;i10a1"}) {
            complete(text, true);
        }
        String full = "t1;t1;t1;t1;t1;t1;t1;t1;t1;t1;t1;t1;t1;t1;t1;t1;t1;t1;t1;t30";
        is("16: 60 characters", full.length(), 60);
        NappingViews x = typed(full);
        is("16: 20 parts", x.replay(), 20);
        is("16: tick", x.tick(), 49);
    }

    private static void replay() {
        NappingViews x = typed("i0a5;i1a7;x0;t3;u1=-9");
        is("16: parts", x.replay(), 5);
        is("16: rows", x.rows(), 1);
        is("16: amount", x.amountAt(1), -9);
        is("16: deltas", x.deltas(), 5);
        is("16: tick", x.tick(), 3);
        is("16: one saved state", x.savedStates(), 1);
        is("16: the buffer is clear", x.firstError(), 0);
        is("16: undo", x.undo(), 0);
        is("16: all parts are undone", x.rows() + x.tick() + x.deltas(), 0);
        is("16: the buffer stays clear", x.clearBuffer(), 0);
        type(x, "i0a5;i0a6;i1a7");
        is("16: up to the part that can't be", x.replay(), 1);
        is("16: not behind it", x.isFree(1), true);
        is("16: the buffer is clear behind a stop", x.clearBuffer(), 0);
        type(x, "x9");
        is("16: nothing happens", x.replay(), 0);
        is("16: and is saved", x.savedStates(), 2);
        is("16: undo of nothing", x.undo(), 1);
        is("16: the stop before is back", x.stoppedPart(), 1);
    }

    private static void replayOfEachPart() {
        NappingViews x = typed("i15b-12;g15c");
        is("16: i and g", x.replay(), 2);
        is("16: place, group", x.groupAt(15), 2);
        is("16: amount", x.amountAt(15), -12);
        type(x, "z0;z2;u15=30;r2;t2;w0;x15");
        is("16: the others", x.replay(), 7);
        is("16: view 2 naps", x.napOf(2), 2);
        is("16: view 0 is awake", x.isNapping(0), false);
        is("16: x", x.isFree(15), true);
        is("16: r", x.refreshes(), 1);
        is("16: w", x.wakings(), 1);
        is("16: one delta waits behind r", x.waiting(2), 1);
        for (String stop : new String[] {"u0=1", "g0a", "x0", "z2", "w0"}) {
            type(x, stop + ";t1");
            is("16: " + stop + " can't be", x.replay(), 0);
            is("16: stop", x.stoppedPart(), 0);
        }
        // The bound is looked at behind each part, not behind the text.
        NappingViews y = new NappingViews();
        y.setBehind(0, 1);
        type(y, "z0;i0a1;i1a1;z0;i2a1");
        is("16: it wakes between parts", y.replay(), 5);
        is("16: by itself", y.wakingsByThemselves(), 1);
        is("16: and naps again", y.waiting(0), 1);
    }

    private static void hasStopped() {
        NappingViews x = typed("x0");
        is("17: without a call", x.hasStopped(), false);
        x.replay();
        is("17: stopped at its only part", x.hasStopped(), true);
        type(x, "x");
        fails("17: a call that throws", x, ARGUMENT, x::replay);
        is("17: it does not count", x.hasStopped(), true);
        type(x, "t1;t1");
        x.replay();
        is("17: the end of the text", x.hasStopped(), false);
        type(x, "t1;t1;w0");
        x.replay();
        is("17: at the last part", x.hasStopped(), true);
        is("17: saved", x.savedStates(), 3);
    }

    private static void stoppedPart() {
        NappingViews x = typed("i0a1;i1a1;i1a1;i2a1");
        fails("18: before", x, STATE, x::stoppedPart);
        x.replay();
        is("18: part", x.stoppedPart(), 2);
        is("18: it stays", x.stoppedPart(), 2);
        type(x, "i0a1");
        x.replay();
        is("18: the first part", x.stoppedPart(), 0);
        type(x, "x0");
        x.replay();
        fails("18: no stop", x, STATE, x::stoppedPart);
        x.undo();
        is("18: undone", x.stoppedPart(), 0);
        x.undo();
        is("18: undone again", x.stoppedPart(), 2);
        x.undo();
        is("18: before all", x.hasStopped(), false);
    }

    // ---- promises 19 to 22: undo, the snapshot

    private static void undo() {
        NappingViews x = new NappingViews();
        fails("19: none", x, STATE, x::undo);
        for (int place = 0; place < 7; place++) {
            x.insert(place, 0, place);
        }
        x.append('x');
        is("19: four left", x.undo(), 4);
        is("19: rows", x.rows(), 6);
        is("19: the log too", x.deltas(), 6);
        is("19: views too", x.countOf(0, 0), 6);
        is("19: three", x.undo(), 3);
        is("19: two", x.undo(), 2);
        is("19: one", x.undo(), 1);
        is("19: none left", x.undo(), 0);
        is("19: the oldest were dropped", x.rows(), 2);
        fails("19: no more", x, STATE, x::undo);
        is("19: the buffer stays", x.clearBuffer(), 1);
        x.insert(9, 1, 1);
        is("19: saved again", x.undo(), 0);
        is("19: rows", x.rows(), 2);
    }

    // Each undoable call saves a state, also if it changes nothing; its undo brings all back.
    private static void undoOfEachCall() {
        undone("insert", x -> x.insert(9, 0, 0));
        undone("change", x -> x.change(0, 1));
        undone("change, the same", x -> x.change(0, 5));
        undone("regroup", x -> x.regroup(0, 0));
        undone("delete", x -> x.delete(0));
        undone("nap", x -> x.nap(0));
        undone("wake", x -> x.wake(2));
        undone("refresh", x -> x.refresh(2));
        undone("refresh, awake", x -> x.refresh(0));
        undone("setFilter", x -> x.setFilter(2, 7));
        undone("setFilter, the same", x -> x.setFilter(2, -99));
        undone("setBehind", x -> x.setBehind(2, 1));
        undone("setBehind, the same", x -> x.setBehind(2, 10));
        undone("setLongest", x -> x.setLongest(2, 20));
        undone("setLongest, the same", x -> x.setLongest(2, 8));
        undone("pass", x -> x.pass(30));
        undone("restore", NappingViews::restore);
        NappingViews x = new NappingViews();
        x.setBehind(1, 3);
        x.setLongest(1, 4);
        x.setFilter(1, 5);
        x.undo();
        x.undo();
        x.undo();
        is("19: the filter", x.filterOf(1), -99);
        is("19: the first bound", x.setBehind(1, 1), 10);
        is("19: the second bound", x.setLongest(1, 1), 8);
    }

    private interface Deed {
        int on(NappingViews x);
    }

    private static void undone(String what, Deed deed) {
        NappingViews x = typed("i0b5;i1b-7;i2b5;i3b99");
        x.replay();
        x.keep();
        type(x, "z2;u3=98;t2");
        x.replay();
        long before = x.digest();
        deed.on(x);
        is("19: " + what + " saves a state", x.savedStates(), 3);
        is("19: undo of " + what, x.undo(), 2);
        is("19: all is back, before " + what, x.digest(), before);
    }

    private static void keep() {
        NappingViews x = new NappingViews();
        is("20: no rows", x.keep(), 0);
        x.insert(0, 0, 1);
        x.insert(1, 0, 2);
        is("20: two", x.keep(), 2);
        is("20: not undoable", x.savedStates(), 2);
        x.delete(0);
        x.delete(1);
        is("20: the later one", x.restore(), 2);
        is("20: its rows", x.amountAt(1), 2);
    }

    private static void restore() {
        NappingViews x = typed("z1;i0a5;x9");
        fails("21: no snapshot", x, STATE, x::restore);
        x.replay();
        x.keep();
        x.pass(9);
        x.change(0, 6);
        type(x, "t1");
        x.replay();
        x.append('q');
        is("21: rows", x.restore(), 1);
        is("21: amount", x.amountAt(0), 5);
        is("21: tick", x.tick(), 0);
        is("21: the log", x.waiting(1), 1);
        is("21: the view naps", x.isNapping(1), true);
        is("21: wakings", x.wakings(), 0);
        is("21: the stop", x.stoppedPart(), 2);
        is("21: not the buffer", x.clearBuffer(), 1);
        is("21: saved", x.savedStates(), 5);
        is("21: undo", x.undo(), 4);
        is("21: amount before", x.amountAt(0), 6);
        is("21: the snapshot stays", x.restore(), 1);
        x.delete(0);
        is("21: it is not changed by later calls", x.restore(), 1);
        x.wake(1);
        is("21: it holds the delta that waited", x.sumOf(1, 0), 5);
    }

    private static void savedStates() {
        NappingViews x = new NappingViews();
        for (int i = 1; i <= 7; i++) {
            x.pass(1);
            is("22: saved", x.savedStates(), Math.min(i, 5));
        }
        x.keep();
        x.append('t');
        x.firstError();
        x.clearBuffer();
        x.undo();
        is("22: four", x.savedStates(), 4);
        fails("22: a call that throws", x, ARGUMENT, () -> x.pass(0));
        is("22: it saves nothing", x.savedStates(), 4);
    }

    // ---- promises 23 to 28: looks at the table

    private static void rows() {
        NappingViews x = fourRows();
        is("23: four", x.rows(), 4);
        x.delete(0);
        x.change(1, 2);
        is("23: three", x.rows(), 3);
    }

    private static void isFree() {
        NappingViews x = new NappingViews();
        x.insert(15, 0, 0);
        is("24: 15", x.isFree(15), false);
        is("24: 0", x.isFree(0), true);
        fails("24: -1", x, BOUNDS, () -> x.isFree(-1));
        fails("24: 16", x, BOUNDS, () -> x.isFree(16));
    }

    private static void groupAt() {
        NappingViews x = new NappingViews();
        x.insert(0, 0, 9);
        x.insert(15, 3, 9);
        is("25: 0", x.groupAt(0), 0);
        is("25: 15", x.groupAt(15), 3);
        fails("25: -1", x, BOUNDS, () -> x.groupAt(-1));
        fails("25: 16", x, BOUNDS, () -> x.groupAt(16));
        fails("25: free", x, STATE, () -> x.groupAt(7));
    }

    private static void amountAt() {
        NappingViews x = new NappingViews();
        x.insert(0, 3, -99);
        x.insert(15, 3, 0);
        is("26: 0", x.amountAt(0), -99);
        is("26: 15", x.amountAt(15), 0);
        x.delete(15);
        fails("26: -1", x, BOUNDS, () -> x.amountAt(-1));
        fails("26: 16", x, BOUNDS, () -> x.amountAt(16));
        fails("26: free", x, STATE, () -> x.amountAt(15));
    }

    private static void deltas() {
        NappingViews x = fourRows();
        is("27: one each", x.deltas(), 4);
        x.change(0, 5);
        is("27: change", x.deltas(), 6);
        x.regroup(0, 1);
        is("27: regroup", x.deltas(), 8);
        x.delete(0);
        is("27: delete", x.deltas(), 9);
        x.nap(0);
        x.pass(30);
        x.refresh(0);
        is("27: views write none", x.deltas(), 9);
    }

    private static void tick() {
        NappingViews x = new NappingViews();
        x.pass(30);
        x.pass(1);
        is("28: tick", x.tick(), 31);
        x.insert(0, 0, 0);
        is("28: nothing else", x.tick(), 31);
    }

    // ---- promises 29 to 38: looks at views

    private static void isNapping() {
        NappingViews x = new NappingViews();
        x.nap(1);
        is("29: 0", x.isNapping(0), false);
        is("29: 1", x.isNapping(1), true);
        is("29: 2", x.isNapping(2), false);
        fails("29: -1", x, BOUNDS, () -> x.isNapping(-1));
        fails("29: 3", x, BOUNDS, () -> x.isNapping(3));
    }

    private static void napOf() {
        NappingViews x = new NappingViews();
        x.nap(1);
        is("30: it begins", x.napOf(1), 0);
        x.pass(7);
        is("30: seven", x.napOf(1), 7);
        is("30: awake", x.napOf(0), 0);
        x.wake(1);
        is("30: woken", x.napOf(1), 0);
        x.setLongest(2, 2);
        x.nap(2);
        x.pass(1);
        x.pass(3);
        is("30: woken by itself", x.napOf(2), 0);
        fails("30: -1", x, BOUNDS, () -> x.napOf(-1));
        fails("30: 3", x, BOUNDS, () -> x.napOf(3));
    }

    private static void filterOf() {
        NappingViews x = new NappingViews();
        x.setFilter(2, 99);
        is("31: 2", x.filterOf(2), 99);
        is("31: 1", x.filterOf(1), -99);
        fails("31: -1", x, BOUNDS, () -> x.filterOf(-1));
        fails("31: 3", x, BOUNDS, () -> x.filterOf(3));
    }

    private static void waiting() {
        for (int deltas = 0; deltas <= 30; deltas += 5) {
            NappingViews x = behindBy(deltas);
            is("32: behind", x.waiting(0), deltas);
            is("33: behind", x.waitingByNumbers(0), deltas);
            is("32: awake", x.waiting(1), 0);
            is("33: awake", x.waitingByNumbers(1), 0);
        }
        NappingViews x = behindBy(3);
        x.setFilter(0, 50);
        is("32: behind a refresh", x.waiting(0), 0);
        is("33: behind a refresh", x.waitingByNumbers(0), 0);
        x.change(0, -50);
        is("32: those below the filter too", x.waiting(0), 2);
        is("33: those below the filter too", x.waitingByNumbers(0), 2);
        fails("32: -1", x, BOUNDS, () -> x.waiting(-1));
        fails("32: 3", x, BOUNDS, () -> x.waiting(3));
        fails("33: -1", x, BOUNDS, () -> x.waitingByNumbers(-1));
        fails("33: 3", x, BOUNDS, () -> x.waitingByNumbers(3));
    }

    private static void matters() {
        NappingViews x = new NappingViews();
        x.setFilter(0, 10);
        x.nap(0);
        x.insert(0, 0, 10);
        x.insert(1, 0, 9);
        is("34: the filter itself", x.matters(0), 1);
        x.change(1, 11);
        is("34: of two deltas one", x.matters(0), 2);
        x.delete(0);
        is("34: those that go too", x.matters(0), 3);
        is("34: awake", x.matters(1), 0);
        x.setFilter(0, 11);
        is("34: behind a refresh", x.matters(0), 0);
        fails("34: -1", x, BOUNDS, () -> x.matters(-1));
        fails("34: 3", x, BOUNDS, () -> x.matters(3));
    }

    private static void wakingCounts() {
        NappingViews x = new NappingViews();
        x.nap(0);
        x.nap(1);
        x.nap(2);
        x.wake(1);
        is("35: woken", x.wakings(), 1);
        is("36: woken", x.wakingsByThemselves(), 0);
        x.pass(8);
        is("35: by the nap", x.wakings(), 3);
        is("36: by the nap", x.wakingsByThemselves(), 2);
        x.setBehind(0, 1);
        x.nap(0);
        x.insert(0, 0, 0);
        x.insert(1, 0, 0);
        is("35: by deltas", x.wakings(), 4);
        is("36: by deltas", x.wakingsByThemselves(), 3);
        x.refresh(0);
        is("35: not by a refresh", x.wakings(), 4);
        x.undo();
        x.undo();
        is("35: undone", x.wakings(), 3);
        is("36: undone", x.wakingsByThemselves(), 2);
    }

    private static void refreshes() {
        NappingViews x = new NappingViews();
        x.refresh(0);
        x.setFilter(1, 0);
        x.setFilter(1, 0);
        is("37: filters too", x.refreshes(), 3);
        x.nap(2);
        x.wake(2);
        is("37: not by waking", x.refreshes(), 3);
    }

    private static void logLength() {
        NappingViews x = new NappingViews();
        x.insert(0, 0, 0);
        is("38: all awake", x.logLength(), 0);
        x.nap(2);
        x.change(0, 1);
        x.nap(0);
        x.change(0, 2);
        is("38: one keeps four", x.logLength(), 4);
        x.wake(2);
        is("38: the other keeps two", x.logLength(), 2);
        x.refresh(0);
        is("38: none", x.logLength(), 0);
    }

    // ---- promises 39 to 45: what views tell

    private static void whatViewsTell() {
        NappingViews x = fourRows();
        is("39: count", x.countOf(0, 1), 4);
        is("40: sum", x.sumOf(0, 1), 102);
        is("41: least", x.leastOf(0, 1), -7);
        is("42: greatest", x.greatestOf(0, 1), 99);
        is("43: the lower one of two", x.medianOf(0, 1), 5);
        is("44: less than 5", x.rankOf(0, 1, 5), 1);
        is("44: less than 6", x.rankOf(0, 1, 6), 3);
        is("44: less than -99", x.rankOf(0, 1, -99), 0);
        is("44: less than 99", x.rankOf(0, 1, 99), 3);
        is("45: unlike amounts", x.unlikeOf(0, 1), 3);
        is("39: no amounts", x.countOf(0, 0), 0);
        is("40: no amounts", x.sumOf(0, 0), 0);
        is("44: no amounts", x.rankOf(0, 0, 99), 0);
        is("45: no amounts", x.unlikeOf(0, 0), 0);
        x.setFilter(2, 5);
        is("39: by the filter", x.countOf(2, 1), 3);
        is("40: by the filter", x.sumOf(2, 1), 109);
        is("41: by the filter", x.leastOf(2, 1), 5);
        is("45: by the filter", x.unlikeOf(2, 1), 2);
        x.nap(1);
        x.change(3, -98);
        x.delete(1);
        is("39: behind", x.countOf(1, 1), 4);
        is("40: behind", x.sumOf(1, 1), 102);
        is("41: behind", x.leastOf(1, 1), -7);
        is("42: behind", x.greatestOf(1, 1), 99);
        is("44: behind", x.rankOf(1, 1, 0), 1);
        is("41: awake", x.leastOf(0, 1), -98);
        is("42: awake", x.greatestOf(0, 1), 5);
        is("43: one of three", x.medianOf(0, 1), 5);
        is("39: by the filter, awake", x.countOf(2, 1), 2);
        x.delete(0);
        is("43: one of two", x.medianOf(0, 1), -98);
        x.delete(2);
        is("43: the only one", x.medianOf(0, 1), -98);
    }

    // ---- promises 46 to 49: what the table tells

    private static void whatTheTableTells() {
        NappingViews x = fourRows();
        x.setFilter(1, 5);
        x.nap(0);
        x.change(0, 4);
        is("46: all", x.countInTable(0, 1), 4);
        is("46: by the filter", x.countInTable(1, 1), 2);
        is("46: none", x.countInTable(1, 0), 0);
        is("47: all", x.sumInTable(0, 1), 101);
        is("47: by the filter", x.sumInTable(1, 1), 104);
        is("47: none", x.sumInTable(1, 3), 0);
        is("48: the lower one of two", x.medianInTable(0, 1), 4);
        is("48: by the filter", x.medianInTable(1, 1), 5);
        is("49: less than 5", x.rankInTable(0, 1, 5), 2);
        is("49: by the filter", x.rankInTable(1, 1, 5), 0);
        is("49: 99 by the filter", x.rankInTable(1, 1, 99), 1);
        is("49: less than -99", x.rankInTable(0, 1, -99), 0);
        is("49: none", x.rankInTable(0, 2, 99), 0);
        is("40: the view is behind", x.sumOf(0, 1), 102);
    }

    private static void wrongLooks() {
        NappingViews x = fourRows();
        int[][] wrong = {{-1, 0}, {3, 0}, {0, -1}, {0, 4}, {3, 4}, {Integer.MAX_VALUE, 0},
            {0, Integer.MIN_VALUE}};
        for (int[] pair : wrong) {
            int v = pair[0];
            int g = pair[1];
            String told = " of view " + v + ", group " + g;
            fails("39:" + told, x, BOUNDS, () -> x.countOf(v, g));
            fails("40:" + told, x, BOUNDS, () -> x.sumOf(v, g));
            fails("41:" + told, x, BOUNDS, () -> x.leastOf(v, g));
            fails("42:" + told, x, BOUNDS, () -> x.greatestOf(v, g));
            fails("43:" + told, x, BOUNDS, () -> x.medianOf(v, g));
            fails("44:" + told, x, BOUNDS, () -> x.rankOf(v, g, 100));
            fails("45:" + told, x, BOUNDS, () -> x.unlikeOf(v, g));
            fails("46:" + told, x, BOUNDS, () -> x.countInTable(v, g));
            fails("47:" + told, x, BOUNDS, () -> x.sumInTable(v, g));
            fails("48:" + told, x, BOUNDS, () -> x.medianInTable(v, g));
            fails("49:" + told, x, BOUNDS, () -> x.rankInTable(v, g, -100));
        }
        fails("41: no amounts", x, STATE, () -> x.leastOf(0, 0));
        fails("42: no amounts", x, STATE, () -> x.greatestOf(0, 0));
        fails("43: no amounts", x, STATE, () -> x.medianOf(2, 3));
        fails("44: -100", x, ARGUMENT, () -> x.rankOf(0, 1, -100));
        fails("44: 100", x, ARGUMENT, () -> x.rankOf(2, 3, 100));
        fails("48: no amounts", x, STATE, () -> x.medianInTable(0, 0));
        fails("49: -100", x, ARGUMENT, () -> x.rankInTable(0, 1, -100));
        fails("49: 100", x, ARGUMENT, () -> x.rankInTable(2, 3, 100));
        x.nap(0);
        x.insert(4, 0, 1);
        fails("43: a view that is behind", x, STATE, () -> x.medianOf(0, 0));
        is("48: the table is not", x.medianInTable(0, 0), 1);
        x.setFilter(1, 99);
        fails("48: none by the filter", x, STATE, () -> x.medianInTable(1, 0));
    }

    // ---- promises 50 to 54

    // The mask behind a text, for the view 1 that naps over rows 0 to 4 in the group a.
    private static void unlikeBehind(String text, int due) {
        NappingViews x = typed("i0a1;i1a2;i2a2;i3a5;i4a9;z1");
        x.replay();
        type(x, text);
        x.replay();
        is("50: the whole text happens: " + text, x.hasStopped(), false);
        is("50: " + text, x.unlikeGroups(1), due);
        is("50: awake: " + text, x.unlikeGroups(0), 0);
        is("51: " + text, x.unlikeIfWoken(1), 0);
    }

    private static void unlikeGroups() {
        unlikeBehind("t1", 0);
        unlikeBehind("u0=1;g1a", 0);
        unlikeBehind("i5d0", 8);
        unlikeBehind("g0c", 5);
        unlikeBehind("i5b7;i6c7;i7d7", 14);
        unlikeBehind("g0b;i5d0;i6c0", 15);
        // Only rows below the filter: the view and the table are alike.
        NappingViews x = new NappingViews();
        x.setFilter(0, 10);
        x.nap(0);
        x.insert(0, 0, 9);
        is("50: below the filter", x.unlikeGroups(0), 0);
        x.insert(1, 2, 10);
        is("50: not below it", x.unlikeGroups(0), 4);
        x.refresh(0);
        is("50: behind a refresh", x.unlikeGroups(0), 0);
        fails("50: -1", x, BOUNDS, () -> x.unlikeGroups(-1));
        fails("50: 3", x, BOUNDS, () -> x.unlikeGroups(3));
        unlikeByOneAnswer();
    }

    // Two tellings that differ in one answer: the view holds the first, the table has the second.
    private static void unlikeByOneAnswer() {
        unlikeBetween("the sum", "i0a1;i1a2;i2a4;i3a9", "u2=5", 1);
        unlikeBetween("the least", "i0a1;i1a5;i2a5;i3a9;i4a7", "u0=2;u4=6", 1);
        unlikeBetween("the greatest", "i0a1;i1a2;i2a5;i3a7;i4a9", "u3=6;u4=10", 1);
        unlikeBetween("the median", "i0a1;i1a3;i2a5;i3a9", "u1=2;u2=6", 1);
        unlikeBetween("unlike amounts", "i0a1;i1a3;i2a5;i3a7;i4a9", "u1=5;u3=5", 1);
        unlikeBetween("the count", "i0a0;i1a-1;i2a1;i3a0", "i4a0", 1);
        unlikeBetween("none", "i0a1;i1a3;i2a5;i3a7;i4a20;i5a30", "u3=8;u4=19", 0);
        unlikeBetween("an empty group", "i0a0", "x0", 1);
    }

    private static void unlikeBetween(String what, String first, String second, int due) {
        NappingViews x = typed(first);
        x.replay();
        x.nap(2);
        type(x, second);
        x.replay();
        is("50: unlike in " + what, x.unlikeGroups(2), due);
    }

    private static void unlikeIfWoken() {
        NappingViews x = fourRows();
        is("51: awake", x.unlikeIfWoken(0), 0);
        x.nap(0);
        x.change(0, 77);
        x.regroup(1, 3);
        x.delete(2);
        long before = x.digest();
        is("51: waking would do", x.unlikeIfWoken(0), 0);
        is("51: it changes nothing", x.digest(), before);
        is("50: unlike by now", x.unlikeGroups(0), 10);
        fails("51: -1", x, BOUNDS, () -> x.unlikeIfWoken(-1));
        fails("51: 3", x, BOUNDS, () -> x.unlikeIfWoken(3));
    }

    private static void wakesIn() {
        NappingViews x = new NappingViews();
        is("52: awake", x.wakesIn(0), 0);
        x.nap(0);
        is("52: it begins", x.wakesIn(0), 8);
        x.pass(5);
        is("52: three left", x.wakesIn(0), 3);
        x.setLongest(0, 5);
        is("52: as long as the bound", x.wakesIn(0), 1);
        x.setLongest(0, 2);
        is("52: at least 1", x.wakesIn(0), 1);
        x.setLongest(0, 30);
        is("52: longer", x.wakesIn(0), 25);
        x.refresh(0);
        is("52: a refresh leaves the nap", x.wakesIn(0), 25);
        is("52: pass", x.pass(24), 0);
        is("52: one left", x.wakesIn(0), 1);
        is("52: then", x.pass(1), 1);
        is("52: awake again", x.wakesIn(0), 0);
        fails("52: -1", x, BOUNDS, () -> x.wakesIn(-1));
        fails("52: 3", x, BOUNDS, () -> x.wakesIn(3));
    }

    private static void behindShare() {
        NappingViews x = new NappingViews();
        is("53: no deltas", x.behindShare(), 0.0);
        x.nap(0);
        is("53: none, and a nap", x.behindShare(), 0.0);
        x.insert(0, 0, 0);
        is("53: a third", x.behindShare(), 1.0 / 3.0);
        x.nap(1);
        x.insert(1, 0, 0);
        is("53: three of six", x.behindShare(), 0.5);
        x.insert(2, 0, 0);
        x.insert(3, 0, 0);
        x.insert(4, 0, 0);
        is("53: nine of fifteen", x.behindShare(), 9.0 / 15.0);
        x.wake(0);
        x.wake(1);
        is("53: all awake", x.behindShare(), 0.0);
        NappingViews y = new NappingViews();
        y.nap(0);
        y.nap(1);
        y.nap(2);
        y.insert(0, 0, 0);
        is("53: all", y.behindShare(), 1.0);
    }

    private static void digest() {
        NappingViews x = new NappingViews();
        is("54: a new object, by hand", x.digest(), digestOfNew());
        is("54: it changes nothing", x.digest(), digestOfNew());
        x.append('q');
        is("54: the buffer", x.digest() == digestOfNew(), false);
        x.clearBuffer();
        is("54: the buffer is clear", x.digest(), digestOfNew());
        is("54: with a row, a nap and a text, by hand", oneRowAndNap().digest(), digestOfOneRow());
        NappingViews y = typed("r0;x0");
        y.replay();
        y.keep();
        y.restore();
        is("54: as the third run of NappingViewsRuns tells", y.digest(), 4187759954485229573L);
    }

    // One row is left; two deltas of five wait for the view 0; the buffer has one character.
    private static NappingViews oneRowAndNap() {
        NappingViews x = new NappingViews();
        x.insert(0, 3, -8);
        x.nap(0);
        x.insert(1, 2, 60);
        x.delete(0);
        x.wake(0);
        x.nap(0);
        x.change(1, 61);
        type(x, "i");
        return x;
    }

    private static long digestOfOneRow() {
        // Rows, deltas, tick, wakings, by themselves, refreshes, log length, saved states.
        long hash = hashOf(4373, 1, 5, 0, 1, 0, 0, 2, 5);
        hash = hashOf(hash, 1, 0, 2, 61);
        for (int place = 2; place < 16; place++) {
            hash = hashOf(hash, 1);
        }
        hash = hashOf(hash, 1, 0, -99, 2, 2, 2, 4, 0, 8);
        hash = hashOf(hash, 0, 0, 0, 0, 0, 0, 0);
        hash = hashOf(hash, 0, 0, 0, 0, 0, 0, 0);
        hash = hashOf(hash, 1, 60, 1, 0, 1, 61, 0, 60, 60, 60, 61);
        hash = hashOf(hash, 0, 0, 0, 0, 0, 0, 0);
        for (int view = 1; view < 3; view++) {
            hash = hashOf(hash, 0, 0, -99, 0, 0, 0, 0, 0, 0);
            hash = hashOf(hash, 0, 0, 0, 0, 0, 0, 0);
            hash = hashOf(hash, 0, 0, 0, 0, 0, 0, 0);
            hash = hashOf(hash, 1, 61, 1, 0, 1, 61, 0, 61, 61, 61, 61);
            hash = hashOf(hash, 0, 0, 0, 0, 0, 0, 0);
        }
        return hashOf(hash, 0, Double.doubleToLongBits(2.0 / 15.0), 1, 'i');
    }

    private static long hashOf(long before, long... values) {
        long hash = before;
        for (long value : values) {
            hash = 31 * hash + value;
        }
        return hash;
    }

    private static long digestOfNew() {
        long hash = 4373;
        for (int i = 0; i < 8; i++) {
            hash = 31 * hash;
        }
        for (int place = 0; place < 16; place++) {
            hash = 31 * hash + 1;
        }
        for (int view = 0; view < 3; view++) {
            hash = 31 * (31 * (31 * hash)) - 99;
            for (int i = 3; i < 9 + 4 * 7; i++) {
                hash = 31 * hash;
            }
        }
        // hasStopped, the share, the length of the buffer.
        return 31 * (31 * (31 * hash));
    }
}
