/**
 * The sentences of "Views" that name a boundary case, and those of the promises 6 to 12, 29 to 38,
 * 52 and 53 that rest on them. Wrong arguments are in RefusalTest.
 */
public final class ViewEdgesTest {
    private static final Check CHECK = new Check("ViewEdgesTest");

    public static void main(String[] args) {
        threeViewsAreAwakeAtFirst();
        eachViewNapsByItself();
        theFilterAtFirst();
        eachFilterTakesItselfAndMore();
        amountsAsOftenAsThereAreRows();
        awakeSeesEachDelta();
        wakeLetsSeeAllThatWait();
        refreshLeavesTheNap();
        refreshLeavesAViewAwake();
        belowTheFilterNothingChanges();
        filterRefreshes();
        aFilterCanBeTheSame();
        bothBoundsAtFirst();
        eachBoundOfDeltas();
        twoDeltasGoPastTheBound();
        aCallCanWakeThreeViews();
        eachPartOfATextIsLookedBehind();
        changeOfTheBoundWakes();
        changeOfTheBoundWakesNoOther();
        anAwakeViewNeverWakes();
        aNapBeginsWithTheLeastBound();
        eachBoundOfTicks();
        aShorterBoundMattersFromTheNextTick();
        aLongerBoundLetsNapOn();
        aNewNapIsZeroLong();
        ticksAreCounted();
        passAnswersHowManyWake();
        bothBoundsTogether();
        countsOfWakings();
        countsOfRefreshes();
        logKeepsWhatWaitsForSomeView();
        shareOfDeltas();
        CHECK.end();
    }

    private static void is(String what, Object got, Object due) {
        CHECK.is(what, got, due);
    }

    private static void naps(String what, NappingViews x, boolean a, boolean b, boolean c) {
        is("29: view 0, " + what, x.isNapping(0), a);
        is("29: view 1, " + what, x.isNapping(1), b);
        is("29: view 2, " + what, x.isNapping(2), c);
    }

    // ---- "There are 3 views, 0 to 2." "A view is awake (at first), or naps."

    private static void threeViewsAreAwakeAtFirst() {
        NappingViews x = new NappingViews();
        naps("at first", x, false, false, false);
        for (int view = 0; view < 3; view++) {
            is("30: no nap", x.napOf(view), 0);
            is("52: awake", x.wakesIn(view), 0);
            is("32: nothing waits", x.waiting(view), 0);
            is("33: nothing waits", x.waitingByNumbers(view), 0);
            is("34: nothing matters", x.matters(view), 0);
            is("50: alike", x.unlikeGroups(view), 0);
            is("51: alike", x.unlikeIfWoken(view), 0);
        }
    }

    private static void eachViewNapsByItself() {
        for (int view = 0; view < 3; view++) {
            NappingViews x = new NappingViews();
            is("6: one naps", x.nap(view), 1);
            naps("one naps", x, view == 0, view == 1, view == 2);
            x.insert(0, 0, 1);
            for (int other = 0; other < 3; other++) {
                is("32: of view " + other, x.waiting(other), other == view ? 1 : 0);
                is("39: of view " + other, x.countOf(other, 0), other == view ? 0 : 1);
            }
            is("6: two nap", x.nap((view + 1) % 3), 2);
            is("6: three nap", x.nap((view + 2) % 3), 3);
            is("7: it sees its delta", x.wake(view), 1);
            naps("two nap", x, view != 0, view != 1, view != 2);
            is("6: three again", x.nap(view), 3);
        }
    }

    // ---- "A view has a filter, -99 to 99, at first -99: it takes rows whose amount is the filter
    // or more."

    private static void theFilterAtFirst() {
        NappingViews x = Scenes.rowsIn(0, -99, 99);
        for (int view = 0; view < 3; view++) {
            is("31: at first", x.filterOf(view), -99);
            is("39: it takes all", x.countOf(view, 0), 2);
            is("9: the previous one", x.setFilter(view, 99), -99);
            is("31: the greatest", x.filterOf(view), 99);
            is("39: it takes 99 alone", x.countOf(view, 0), 1);
            is("9: the previous one", x.setFilter(view, -99), 99);
            is("31: the least", x.filterOf(view), -99);
            is("39: it takes all again", x.countOf(view, 0), 2);
        }
    }

    // The amount of the filter is taken and the one below is not: by a refresh, by deltas that are
    // seen at once, by deltas that waited, and in the table.
    private static void eachFilterTakesItselfAndMore() {
        for (int filter = -98; filter <= 99; filter++) {
            NappingViews x = Scenes.rowsIn(1, filter, filter - 1);
            x.setFilter(0, filter);
            is("9: refreshed", x.sumOf(0, 1), filter);
            is("9: one taken", x.countOf(0, 1), 1);
            is("46: one in the table", x.countInTable(0, 1), 1);
            is("47: in the table", x.sumInTable(0, 1), filter);
            x.insert(2, 2, filter);
            x.insert(3, 2, filter - 1);
            is("40: at once", x.sumOf(0, 2), filter);
            is("39: one at once", x.countOf(0, 2), 1);
            x.nap(0);
            x.insert(4, 3, filter);
            x.insert(5, 3, filter - 1);
            is("34: one matters", x.matters(0), 1);
            is("7: both are seen", x.wake(0), 2);
            is("40: woken", x.sumOf(0, 3), filter);
            is("39: one when woken", x.countOf(0, 3), 1);
            is("50: alike", x.unlikeGroups(0), 0);
        }
    }

    // ---- "It holds for each group the amounts that it has taken, each as often as there are rows
    // with it, by the deltas that it has seen."

    private static void amountsAsOftenAsThereAreRows() {
        NappingViews x = new NappingViews();
        for (int n = 1; n <= 16; n++) {
            x.insert(n - 1, 2, -5);
            is("39: so many rows", x.countOf(0, 2), n);
            is("40: so often", x.sumOf(0, 2), -5 * n);
            is("45: one amount", x.unlikeOf(0, 2), 1);
        }
        for (int n = 15; n >= 0; n--) {
            x.delete(n);
            is("39: one less", x.countOf(0, 2), n);
            is("45: one amount, or none", x.unlikeOf(0, 2), n == 0 ? 0 : 1);
        }
    }

    // ---- "A view that is awake sees each delta as it is written."

    private static void awakeSeesEachDelta() {
        NappingViews x = Scenes.rowsIn(1, 4, 5);
        for (int view = 0; view < 3; view++) {
            is("32: nothing waits", x.waiting(view), 0);
            is("33: nothing waits", x.waitingByNumbers(view), 0);
            is("40: it holds", x.sumOf(view, 1), 9);
        }
        x.change(0, 40);
        is("40: changed at once", x.sumOf(0, 1), 45);
        x.regroup(0, 0);
        is("40: regrouped at once", x.sumOf(1, 0), 40);
        x.delete(0);
        is("39: gone at once", x.countOf(2, 0), 0);
    }

    // ---- "To wake a view lets it see all deltas that wait, in their order; it is awake then."

    private static void wakeLetsSeeAllThatWait() {
        for (int deltas = 0; deltas <= 30; deltas++) {
            for (int view = 0; view < 3; view++) {
                NappingViews x = Scenes.behindBy(view, deltas);
                is("32: wait", x.waiting(view), deltas);
                is("33: wait", x.waitingByNumbers(view), deltas);
                is("38: the log keeps them", x.logLength(), deltas);
                is("7: it sees them", x.wake(view), deltas);
                is("29: awake", x.isNapping(view), false);
                is("32: none waits", x.waiting(view), 0);
                is("33: none waits", x.waitingByNumbers(view), 0);
                is("34: none matters", x.matters(view), 0);
                is("38: none is kept", x.logLength(), 0);
                is("40: it holds", x.sumOf(view, 0), deltas % 2);
                x.insert(9, 3, 1);
                is("39: it sees the next one at once", x.countOf(view, 3), 1);
            }
        }
    }

    // ---- "To refresh a view lets it hold what the table tells, and have seen all deltas; it stays
    // awake, or goes on with its nap."

    private static void refreshLeavesTheNap() {
        for (int deltas = 0; deltas <= 30; deltas++) {
            NappingViews x = Scenes.behindBy(1, deltas);
            x.pass(5);
            is("8: so many waited", x.refresh(1), deltas);
            is("29: it naps on", x.isNapping(1), true);
            is("30: as long as before", x.napOf(1), 5);
            is("52: no longer than before", x.wakesIn(1), 3);
            is("32: none waits", x.waiting(1), 0);
            is("33: none waits", x.waitingByNumbers(1), 0);
            is("40: it holds", x.sumOf(1, 0), deltas % 2);
            is("50: alike", x.unlikeGroups(1), 0);
            is("35: it was not woken", x.wakings(), 0);
            x.insert(9, 3, 1);
            is("39: it naps: nothing is seen", x.countOf(1, 3), 0);
            is("32: one waits", x.waiting(1), 1);
            is("8: again", x.refresh(1), 1);
            is("12: not yet", x.pass(2), 0);
            is("12: its nap ends as before", x.pass(1), 1);
        }
    }

    private static void refreshLeavesAViewAwake() {
        NappingViews x = Scenes.rowsIn(3, 1, 2);
        is("8: nothing waited", x.refresh(2), 0);
        is("29: awake", x.isNapping(2), false);
        is("30: no nap", x.napOf(2), 0);
        is("40: it holds", x.sumOf(2, 3), 3);
        x.change(0, 5);
        is("40: it follows", x.sumOf(2, 3), 7);
        NappingViews y = new NappingViews();
        is("8: a free table", y.refresh(0), 0);
        is("39: nothing is held", y.countOf(0, 0), 0);
        is("37: it counts", y.refreshes(), 1);
    }

    // ---- "To see a delta with an amount below the filter changes nothing."

    private static void belowTheFilterNothingChanges() {
        NappingViews x = new NappingViews();
        x.setFilter(0, 10);
        x.insert(0, 1, 9);
        is("39: it does not come", x.countOf(0, 1), 0);
        x.insert(1, 1, 10);
        x.delete(0);
        is("39: it does not go", x.countOf(0, 1), 1);
        x.change(1, 9);
        is("39: the old one goes, the new one does not come", x.countOf(0, 1), 0);
        x.change(1, 11);
        is("40: the old one does not go, the new one comes", x.sumOf(0, 1), 11);
        x.nap(0);
        x.insert(2, 1, 9);
        x.insert(3, 2, -99);
        is("32: it waits all the same", x.waiting(0), 2);
        is("34: it does not matter", x.matters(0), 0);
        is("50: alike", x.unlikeGroups(0), 0);
        is("7: it is seen all the same", x.wake(0), 2);
        is("39: woken, it holds no more", x.countOf(0, 1) + x.countOf(0, 2), 1);
    }

    // ---- "Changes the filter of a view, and refreshes it."

    private static void filterRefreshes() {
        NappingViews x = Scenes.behindBy(1, 7);
        x.insert(1, 0, 20);
        x.pass(3);
        is("9: previous", x.setFilter(1, 20), -99);
        is("32: none waits", x.waiting(1), 0);
        is("33: none waits", x.waitingByNumbers(1), 0);
        is("40: what the table tells", x.sumOf(1, 0), 20);
        is("29: it naps on", x.isNapping(1), true);
        is("30: as long as before", x.napOf(1), 3);
        is("37: a refresh", x.refreshes(), 1);
        is("35: no waking", x.wakings(), 0);
        is("31: no other view", x.filterOf(0) + x.filterOf(2), -198);
        x.change(1, 19);
        is("34: by the new filter", x.matters(1), 1);
        is("9: awake", x.setFilter(0, 21), -99);
        is("29: it stays awake", x.isNapping(0), false);
        is("37: two refreshes", x.refreshes(), 2);
    }

    private static void aFilterCanBeTheSame() {
        NappingViews x = Scenes.behindBy(2, 3);
        is("9: the same", x.setFilter(2, -99), -99);
        is("32: none waits", x.waiting(2), 0);
        is("37: a refresh all the same", x.refreshes(), 1);
    }

    // ---- "A view has two bounds: the deltas that may wait (1 to 30, at first 10), and the ticks
    // that a nap may last (1 to 30, at first 8)."

    private static void bothBoundsAtFirst() {
        for (int view = 0; view < 3; view++) {
            NappingViews x = new NappingViews();
            x.nap(view);
            Scenes.writeDeltas(x, 10);
            is("10: ten may wait at first", x.waiting(view), 10);
            Scenes.writeDeltas(x, 1);
            is("10: eleven may not", x.isNapping(view), false);
            x.nap(view);
            is("52: eight ticks at first", x.wakesIn(view), 8);
            is("11: seven ticks", x.pass(7), 0);
            is("11: the eighth", x.pass(1), 1);
            is("10: told", x.setBehind(view, 30), 10);
            is("11: told", x.setLongest(view, 30), 8);
        }
    }

    // ---- "When more deltas wait than the first bound tells, behind a call that writes deltas
    // [..], it wakes by itself."

    private static void eachBoundOfDeltas() {
        for (int bound = 1; bound <= 30; bound++) {
            int view = bound % 3;
            NappingViews x = new NappingViews();
            is("10: first bound", x.setBehind(view, bound), 10);
            x.nap(view);
            Scenes.writeDeltas(x, bound);
            is("10: as many may wait as " + bound, x.isNapping(view), true);
            is("32: as many wait", x.waiting(view), bound);
            is("35: not woken", x.wakings(), 0);
            Scenes.writeDeltas(x, 1);
            is("10: one more than " + bound, x.isNapping(view), false);
            is("32: it saw all", x.waiting(view), 0);
            is("30: no nap", x.napOf(view), 0);
            is("40: it holds", x.sumOf(view, 0), (bound + 1) % 2);
            is("35: a waking", x.wakings(), 1);
            is("36: by itself", x.wakingsByThemselves(), 1);
            is("10: the bound is as before", x.setBehind(view, 1), bound);
        }
    }

    // A change and a regroup write two deltas: then one or two more wait than may.
    private static void twoDeltasGoPastTheBound() {
        for (int bound = 2; bound <= 30; bound++) {
            for (int waiting = bound - 2; waiting <= bound; waiting++) {
                NappingViews x = new NappingViews();
                x.insert(5, 3, 50);
                x.setBehind(1, bound);
                x.nap(1);
                Scenes.writeDeltas(x, waiting);
                x.change(5, 51);
                boolean stays = waiting + 2 <= bound;
                String told = " " + waiting + " and two, of " + bound;
                is("10:" + told, x.isNapping(1), stays);
                is("32:" + told, x.waiting(1), stays ? bound : 0);
                is("40:" + told, x.sumOf(1, 3), stays ? 50 : 51);
                is("35:" + told, x.wakings(), stays ? 0 : 1);
            }
        }
        NappingViews x = Scenes.rowsIn(3, 7);
        x.setBehind(2, 1);
        x.nap(2);
        x.regroup(0, 3);
        is("10: a regroup, of 1", x.isNapping(2), false);
        x.nap(2);
        x.change(0, 7);
        is("10: a change, of 1", x.isNapping(2), false);
        is("36: both by itself", x.wakingsByThemselves(), 2);
    }

    private static void aCallCanWakeThreeViews() {
        NappingViews x = new NappingViews();
        x.setBehind(0, 2);
        x.setBehind(1, 3);
        x.setBehind(2, 2);
        x.nap(0);
        x.nap(1);
        x.nap(2);
        Scenes.writeDeltas(x, 2);
        naps("two wait", x, true, true, true);
        Scenes.writeDeltas(x, 1);
        naps("three wait", x, false, true, false);
        is("35: two wakings", x.wakings(), 2);
        is("36: by themselves", x.wakingsByThemselves(), 2);
        Scenes.writeDeltas(x, 1);
        naps("four wait", x, false, false, false);
        is("36: three", x.wakingsByThemselves(), 3);
        NappingViews y = Scenes.rowsIn(0, 1);
        for (int view = 0; view < 3; view++) {
            y.setBehind(view, 1);
            y.nap(view);
        }
        y.change(0, 2);
        naps("one call", y, false, false, false);
        is("36: three at once", y.wakingsByThemselves(), 3);
    }

    // ---- "(a part of a text likewise)"

    private static void eachPartOfATextIsLookedBehind() {
        NappingViews x = new NappingViews();
        x.setBehind(0, 1);
        is("16: one may wait", Scenes.play(x, "z0;i0a1;w0"), 3);
        is("36: woken, not by itself", x.wakingsByThemselves(), 0);
        is("16: two may not", Scenes.play(x, "z0;i1a1;i2a1;w0;t1"), 3);
        is("18: it can't be woken then", x.stoppedPart(), 3);
        is("36: it woke by itself", x.wakingsByThemselves(), 1);
        is("16: it can nap again", Scenes.play(x, "z0;u0=2;z0;g0b;z0;x0;x1;z0;x2"), 9);
        is("36: by each kind of part", x.wakingsByThemselves(), 4);
        is("32: the last one waits", x.waiting(0), 1);
    }

    // ---- "behind a change of the bound"

    private static void changeOfTheBoundWakes() {
        for (int waiting = 0; waiting <= 30; waiting++) {
            NappingViews x = Scenes.behindBy(0, waiting);
            if (waiting > 0) {
                x.setBehind(0, waiting);
                is("10: as many as wait, " + waiting, x.isNapping(0), true);
                is("32: they wait on", x.waiting(0), waiting);
            }
            x.setBehind(0, Math.max(1, waiting - 1));
            boolean stays = waiting <= 1;
            is("10: one fewer than " + waiting, x.isNapping(0), stays);
            is("32: seen", x.waiting(0), stays ? waiting : 0);
            is("36: by itself", x.wakingsByThemselves(), stays ? 0 : 1);
            is("35: a waking", x.wakings(), stays ? 0 : 1);
            is("40: it holds", x.sumOf(0, 0), waiting == 1 ? 0 : waiting % 2);
        }
    }

    private static void changeOfTheBoundWakesNoOther() {
        NappingViews x = new NappingViews();
        x.nap(0);
        x.nap(1);
        Scenes.writeDeltas(x, 9);
        is("10: the previous one", x.setBehind(1, 8), 10);
        naps("a bound of the view 1", x, true, false, false);
        is("32: the view 0 waits on", x.waiting(0), 9);
        is("10: its bound is as before", x.setBehind(0, 9), 10);
        naps("nine may wait", x, true, false, false);
    }

    private static void anAwakeViewNeverWakes() {
        NappingViews x = Scenes.rowsIn(0, 1, 2, 3);
        x.setBehind(0, 1);
        x.change(0, 7);
        x.setBehind(0, 30);
        x.setBehind(0, 1);
        x.pass(30);
        is("35: no waking", x.wakings(), 0);
        is("36: no waking", x.wakingsByThemselves(), 0);
    }

    // ---- "or when it begins to nap": nothing waits for a view that was awake

    private static void aNapBeginsWithTheLeastBound() {
        for (int view = 0; view < 3; view++) {
            NappingViews x = new NappingViews();
            x.setBehind(view, 1);
            x.nap(view);
            Scenes.writeDeltas(x, 2);
            is("6: one naps", x.nap(view), 1);
            is("29: it naps", x.isNapping(view), true);
            is("35: it woke once, before", x.wakings(), 1);
            is("32: nothing waits", x.waiting(view), 0);
        }
    }

    // ---- "In a tick the nap of each view that naps is 1 longer (0 when it begins); if it is as
    // long as the second bound, or longer, the view wakes by itself."

    private static void eachBoundOfTicks() {
        for (int bound = 1; bound <= 30; bound++) {
            int view = bound % 3;
            NappingViews x = new NappingViews();
            is("11: second bound", x.setLongest(view, bound), 8);
            x.nap(view);
            x.insert(0, 0, 6);
            is("30: 0 when it begins", x.napOf(view), 0);
            for (int nap = 0; nap < bound; nap++) {
                is("30: nap", x.napOf(view), nap);
                is("52: ticks left", x.wakesIn(view), bound - nap);
                is("29: it naps", x.isNapping(view), true);
                is("32: its delta waits", x.waiting(view), 1);
                is("12: one tick", x.pass(1), nap + 1 == bound ? 1 : 0);
            }
            is("29: awake", x.isNapping(view), false);
            is("30: no nap", x.napOf(view), 0);
            is("52: awake", x.wakesIn(view), 0);
            is("40: it saw the delta", x.sumOf(view, 0), 6);
            is("35: a waking", x.wakings(), 1);
            is("36: by itself", x.wakingsByThemselves(), 1);
            is("28: ticks", x.tick(), bound);
            is("11: the bound is as before", x.setLongest(view, 1), bound);
        }
    }

    // "it matters from the next tick on"
    private static void aShorterBoundMattersFromTheNextTick() {
        for (int bound = 1; bound <= 8; bound++) {
            NappingViews x = new NappingViews();
            x.nap(2);
            x.pass(5);
            is("11: previous", x.setLongest(2, bound), 8);
            is("29: it naps on", x.isNapping(2), true);
            is("30: as long as before", x.napOf(2), 5);
            is("35: no waking", x.wakings(), 0);
            int left = Math.max(1, bound - 5);
            is("52: at least 1, of " + bound, x.wakesIn(2), left);
            for (int tick = 1; tick <= left; tick++) {
                is("12: tick " + tick, x.pass(1), tick == left ? 1 : 0);
            }
            is("29: awake", x.isNapping(2), false);
        }
    }

    private static void aLongerBoundLetsNapOn() {
        NappingViews x = new NappingViews();
        x.nap(0);
        x.pass(7);
        x.setLongest(0, 30);
        is("52: ticks left", x.wakesIn(0), 23);
        is("12: none wakes", x.pass(22), 0);
        is("30: a nap of 29", x.napOf(0), 29);
        is("52: one left", x.wakesIn(0), 1);
        is("12: the last tick", x.pass(30), 1);
    }

    private static void aNewNapIsZeroLong() {
        NappingViews x = new NappingViews();
        x.nap(1);
        x.pass(6);
        x.wake(1);
        is("30: awake", x.napOf(1), 0);
        x.pass(1);
        is("30: awake, a tick on", x.napOf(1), 0);
        x.nap(1);
        is("30: a new nap", x.napOf(1), 0);
        x.pass(1);
        is("30: one tick", x.napOf(1), 1);
        is("52: seven left", x.wakesIn(1), 7);
        x.setBehind(1, 1);
        Scenes.writeDeltas(x, 2);
        x.nap(1);
        is("30: woken by deltas, a new nap", x.napOf(1), 0);
        x.pass(8);
        x.nap(1);
        is("30: woken by ticks, a new nap", x.napOf(1), 0);
    }

    // ---- "Then the tick is 1 more (0 at first)."

    private static void ticksAreCounted() {
        for (int ticks = 1; ticks <= 30; ticks++) {
            NappingViews x = new NappingViews();
            is("28: at first", x.tick(), 0);
            is("12: nobody naps", x.pass(ticks), 0);
            is("28: ticks", x.tick(), ticks);
            x.pass(30);
            is("28: thirty more", x.tick(), ticks + 30);
            Scenes.play(x, "t" + ticks + ";t1");
            is("28: by a text", x.tick(), 2 * ticks + 31);
        }
    }

    private static void passAnswersHowManyWake() {
        for (int a = 1; a <= 5; a++) {
            for (int ticks = 1; ticks <= 8; ticks++) {
                NappingViews x = new NappingViews();
                x.setLongest(0, a);
                x.setLongest(1, 4);
                x.setLongest(2, 7);
                x.nap(0);
                x.nap(1);
                x.nap(2);
                int due = (ticks >= a ? 1 : 0) + (ticks >= 4 ? 1 : 0) + (ticks >= 7 ? 1 : 0);
                is("12: of " + a + " in " + ticks, x.pass(ticks), due);
                is("36: as many", x.wakingsByThemselves(), due);
                is("12: the others later", x.pass(30), 3 - due);
                is("12: none twice", x.pass(30), 0);
            }
        }
    }

    private static void bothBoundsTogether() {
        NappingViews x = new NappingViews();
        x.setBehind(0, 2);
        x.setLongest(0, 3);
        x.nap(0);
        x.pass(2);
        Scenes.writeDeltas(x, 2);
        is("29: at both edges", x.isNapping(0), true);
        is("12: the nap ends", x.pass(1), 1);
        x.nap(0);
        x.pass(2);
        Scenes.writeDeltas(x, 3);
        is("29: the deltas end it", x.isNapping(0), false);
        is("12: it does not wake twice", x.pass(1), 0);
        is("35: twice in all", x.wakings(), 2);
    }

    // ---- "how often views were woken, or woke by themselves, so far"

    private static void countsOfWakings() {
        NappingViews x = new NappingViews();
        is("35: at first", x.wakings(), 0);
        is("36: at first", x.wakingsByThemselves(), 0);
        x.nap(0);
        x.wake(0);
        is("35: woken", x.wakings(), 1);
        is("36: not by itself", x.wakingsByThemselves(), 0);
        x.nap(1);
        x.pass(8);
        is("35: by ticks", x.wakings(), 2);
        is("36: by ticks", x.wakingsByThemselves(), 1);
        x.nap(2);
        x.setBehind(2, 1);
        x.insert(0, 0, 0);
        x.change(0, 0);
        is("35: by deltas", x.wakings(), 3);
        is("36: by deltas", x.wakingsByThemselves(), 2);
        Scenes.play(x, "z0;w0;z0;t8");
        is("35: by a text", x.wakings(), 5);
        is("36: by a text", x.wakingsByThemselves(), 3);
        x.setBehind(0, 30);
        x.nap(0);
        x.change(0, 1);
        x.setBehind(0, 1);
        is("35: by a bound", x.wakings(), 6);
        is("36: by a bound", x.wakingsByThemselves(), 4);
        x.nap(0);
        x.refresh(0);
        x.setFilter(0, 0);
        is("35: not by a refresh", x.wakings(), 6);
    }

    private static void countsOfRefreshes() {
        NappingViews x = new NappingViews();
        is("37: at first", x.refreshes(), 0);
        x.refresh(0);
        x.nap(1);
        x.refresh(1);
        is("37: awake and napping", x.refreshes(), 2);
        x.setFilter(2, 1);
        x.setFilter(2, 1);
        is("37: by filters too", x.refreshes(), 4);
        Scenes.play(x, "r0;r1;r2");
        is("37: by a text", x.refreshes(), 7);
        x.wake(1);
        x.setBehind(0, 5);
        x.setLongest(0, 5);
        is("37: by nothing else", x.refreshes(), 7);
    }

    // ---- "the number of deltas that the log has to keep: those that wait for some view"

    private static void logKeepsWhatWaitsForSomeView() {
        for (int first = 0; first < 3; first++) {
            int second = (first + 1) % 3;
            NappingViews x = new NappingViews();
            x.nap(first);
            Scenes.writeDeltas(x, 2);
            is("38: one view", x.logLength(), 2);
            x.nap(second);
            is("38: nothing waits for the other", x.logLength(), 2);
            Scenes.writeDeltas(x, 3);
            is("38: those of both are told once", x.logLength(), 5);
            is("32: of the first", x.waiting(first), 5);
            is("32: of the second", x.waiting(second), 3);
            x.refresh(first);
            is("38: those of the second", x.logLength(), 3);
            x.wake(second);
            is("38: none", x.logLength(), 0);
        }
    }

    // ---- "the deltas that wait, of all views together, as a double, divided by three times the
    // deltas written; 0.0 without any"

    private static void shareOfDeltas() {
        NappingViews x = new NappingViews();
        is("53: no deltas", x.behindShare(), 0.0);
        x.nap(0);
        x.nap(1);
        x.nap(2);
        is("53: no deltas, three naps", x.behindShare(), 0.0);
        x.insert(0, 0, 0);
        is("53: all wait", x.behindShare(), 1.0);
        x.refresh(1);
        is("53: two of three", x.behindShare(), 2.0 / 3.0);
        x.wake(0);
        is("53: one of three", x.behindShare(), 1.0 / 3.0);
        x.insert(1, 0, 0);
        is("53: three of six", x.behindShare(), 0.5);
        x.wake(2);
        is("53: one of six", x.behindShare(), 1.0 / 6.0);
        x.refresh(1);
        is("53: none waits", x.behindShare(), 0.0);
        is("53: thirty of thirty", Scenes.behindBy(1, 30).behindShare(), 30.0 / 90.0);
    }
}
