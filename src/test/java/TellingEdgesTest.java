import java.util.Arrays;
import java.util.HashSet;
import java.util.Set;

/**
 * The sentences of "What a view tells" that name a boundary case, and those of the promises 39 to
 * 51 and 54 that rest on them. Wrong arguments are in RefusalTest.
 */
public final class TellingEdgesTest {
    private static final Class<?> STATE = IllegalStateException.class;
    private static final Check CHECK = new Check("TellingEdgesTest");

    public static void main(String[] args) {
        aGroupWithoutAmountsInANewObject();
        aGroupThatLostItsAmounts();
        aGroupBelowTheFilter();
        anEmptyGroupBesideFullOnes();
        countAndSumOfMost();
        leastAndGreatest();
        medianOfEachNumber();
        medianAtTheFilter();
        rankIsHowManyAreLess();
        rankByTheFilter();
        unlikeAmounts();
        theViewIsBehindTheTableIsNot();
        theTableByEachFilter();
        unlikeInOneAnswerAlone();
        unlikeInEachMask();
        unlikeWithoutAmounts();
        rankDoesNotMakeUnlike();
        unlikeByTheFilterOfTheView();
        wokenItIsAlike();
        digestTellsItsList();
        digestTellsEachChange();
        digestTellsTheBitsOfEachShare();
        CHECK.end();
    }

    private static void is(String what, Object got, Object due) {
        CHECK.is(what, got, due);
    }

    // ---- a group without amounts: "the count", "the sum, 0 without amounts", "throws
    // IllegalStateException if it has no amounts"

    private static void viewTellsNothing(String what, NappingViews x, int view, int group) {
        is("39: " + what, x.countOf(view, group), 0);
        is("40: " + what, x.sumOf(view, group), 0);
        CHECK.fails("41: " + what, x, STATE, () -> x.leastOf(view, group));
        CHECK.fails("42: " + what, x, STATE, () -> x.greatestOf(view, group));
        CHECK.fails("43: " + what, x, STATE, () -> x.medianOf(view, group));
        is("44: least rank, " + what, x.rankOf(view, group, -99), 0);
        is("44: greatest rank, " + what, x.rankOf(view, group, 99), 0);
        is("45: " + what, x.unlikeOf(view, group), 0);
    }

    private static void tableTellsNothing(String what, NappingViews x, int view, int group) {
        is("46: " + what, x.countInTable(view, group), 0);
        is("47: " + what, x.sumInTable(view, group), 0);
        CHECK.fails("48: " + what, x, STATE, () -> x.medianInTable(view, group));
        is("49: least rank, " + what, x.rankInTable(view, group, -99), 0);
        is("49: greatest rank, " + what, x.rankInTable(view, group, 99), 0);
    }

    private static void bothTellOne(String what, NappingViews x, int view, int group, int amount) {
        is("39: " + what, x.countOf(view, group), 1);
        is("40: " + what, x.sumOf(view, group), amount);
        is("41: " + what, x.leastOf(view, group), amount);
        is("42: " + what, x.greatestOf(view, group), amount);
        is("43: " + what, x.medianOf(view, group), amount);
        is("45: " + what, x.unlikeOf(view, group), 1);
        is("46: " + what, x.countInTable(view, group), 1);
        is("47: " + what, x.sumInTable(view, group), amount);
        is("48: " + what, x.medianInTable(view, group), amount);
    }

    private static void aGroupWithoutAmountsInANewObject() {
        for (int view = 0; view < 3; view++) {
            for (int group = 0; group < 4; group++) {
                NappingViews x = new NappingViews();
                viewTellsNothing("new", x, view, group);
                tableTellsNothing("new", x, view, group);
            }
        }
    }

    private static void aGroupThatLostItsAmounts() {
        for (int group = 0; group < 4; group++) {
            NappingViews x = Scenes.rowsIn(group, 5);
            bothTellOne("one row", x, 1, group, 5);
            x.nap(2);
            x.delete(0);
            viewTellsNothing("deleted", x, 1, group);
            tableTellsNothing("deleted", x, 1, group);
            tableTellsNothing("deleted, the view naps", x, 2, group);
            is("41: the view that naps", x.leastOf(2, group), 5);
            is("42: the view that naps", x.greatestOf(2, group), 5);
            is("43: the view that naps", x.medianOf(2, group), 5);
            x.wake(2);
            viewTellsNothing("deleted, and woken", x, 2, group);
            x.insert(0, group, -6);
            bothTellOne("again", x, 2, group, -6);
            x.regroup(0, (group + 1) % 4);
            viewTellsNothing("regrouped", x, 0, group);
            tableTellsNothing("regrouped", x, 0, group);
        }
    }

    private static void aGroupBelowTheFilter() {
        NappingViews x = Scenes.rowsIn(3, 9);
        x.setFilter(1, 10);
        viewTellsNothing("one below", x, 1, 3);
        tableTellsNothing("one below", x, 1, 3);
        bothTellOne("the filter at first", x, 0, 3, 9);
        x.setFilter(1, 9);
        bothTellOne("the filter itself", x, 1, 3, 9);
        x.nap(1);
        x.change(0, 8);
        tableTellsNothing("changed to one below", x, 1, 3);
        is("43: the view naps", x.medianOf(1, 3), 9);
        x.wake(1);
        viewTellsNothing("woken", x, 1, 3);
    }

    private static void anEmptyGroupBesideFullOnes() {
        NappingViews x = new NappingViews();
        for (int place = 0; place < 16; place++) {
            x.insert(place, place % 3 == 2 ? 3 : place % 3, place);
        }
        viewTellsNothing("the group 2 of a full table", x, 0, 2);
        tableTellsNothing("the group 2 of a full table", x, 0, 2);
        is("39: the group 1", x.countOf(0, 1), 5);
        is("39: the group 3", x.countOf(0, 3), 5);
    }

    // ---- "the count and the sum of its amounts, the least and the greatest one"

    private static void countAndSumOfMost() {
        int[] amounts = new int[16];
        for (int amount = -99; amount <= 99; amount += 99) {
            Arrays.fill(amounts, amount);
            NappingViews x = Scenes.rowsIn(1, amounts);
            is("39: sixteen", x.countOf(0, 1), 16);
            is("40: sixteen of " + amount, x.sumOf(0, 1), 16 * amount);
            is("41: sixteen of " + amount, x.leastOf(0, 1), amount);
            is("42: sixteen of " + amount, x.greatestOf(0, 1), amount);
            is("43: sixteen of " + amount, x.medianOf(0, 1), amount);
            is("46: sixteen", x.countInTable(0, 1), 16);
            is("47: sixteen of " + amount, x.sumInTable(0, 1), 16 * amount);
            is("48: sixteen of " + amount, x.medianInTable(0, 1), amount);
        }
    }

    private static void leastAndGreatest() {
        NappingViews x = Scenes.rowsIn(0, 3, -99, 7, 99, -4);
        is("41: the least there can be", x.leastOf(2, 0), -99);
        is("42: the greatest there can be", x.greatestOf(2, 0), 99);
        x.delete(1);
        x.delete(3);
        is("41: the next", x.leastOf(2, 0), -4);
        is("42: the next", x.greatestOf(2, 0), 7);
        NappingViews y = Scenes.rowsIn(0, -50, -60, -40);
        is("41: all below 0", y.leastOf(0, 0), -60);
        is("42: all below 0", y.greatestOf(0, 0), -40);
        NappingViews z = Scenes.rowsIn(0, 50, 60, 40);
        is("41: all above 0", z.leastOf(0, 0), 40);
        is("42: all above 0", z.greatestOf(0, 0), 60);
    }

    // ---- "the median (of n amounts by size, the one at the place (n - 1) / 2, rounded down, from
    // 0)"

    private static void medianOfEachNumber() {
        medians(new int[] {1, 2, 3, 4, 5, 6, 7, 8, 9, 10, 11, 12, 13, 14, 15, 16},
                new int[] {1, 1, 2, 2, 3, 3, 4, 4, 5, 5, 6, 6, 7, 7, 8, 8});
        medians(new int[] {-1, -2, -3, -4, -5, -6, -7, -8, -9, -10, -11, -12, -13, -14, -15, -16},
                new int[] {-1, -2, -2, -3, -3, -4, -4, -5, -5, -6, -6, -7, -7, -8, -8, -9});
        medians(new int[] {20, -40, 80, -70, 0, 50, -10, 70, -60, 30, 10, -30, 60, -50, 40, -20},
                new int[] {20, -40, 20, -40, 0, 0, 0, 0, 0, 0, 10, 0, 10, 0, 10, 0});
        medians(new int[] {5, 5, 5, -1, -1, -1, -1}, new int[] {5, 5, 5, 5, 5, -1, -1});
    }

    // The median of the first amount alone, of the first two, and so on.
    private static void medians(int[] amounts, int[] due) {
        NappingViews x = new NappingViews();
        for (int n = 1; n <= amounts.length; n++) {
            x.insert(16 - n, 2, amounts[n - 1]);
            is("43: of " + n, x.medianOf(1, 2), due[n - 1]);
            is("48: of " + n, x.medianInTable(1, 2), due[n - 1]);
        }
    }

    private static void medianAtTheFilter() {
        NappingViews x = Scenes.rowsIn(0, 1, 2, 3, 4, 5);
        int[] due = {3, 3, 4, 4, 5};
        for (int filter = 1; filter <= 5; filter++) {
            x.setFilter(0, filter);
            is("43: from " + filter, x.medianOf(0, 0), due[filter - 1]);
            is("48: from " + filter, x.medianInTable(0, 0), due[filter - 1]);
        }
    }

    // ---- "the rank of an amount (how many are less)"

    private static void ranks(NappingViews x, int view, int amount, int due) {
        is("44: less than " + amount, x.rankOf(view, 1, amount), due);
        is("49: less than " + amount, x.rankInTable(view, 1, amount), due);
    }

    private static void rankIsHowManyAreLess() {
        NappingViews x = Scenes.rowsIn(1, 99, -99, 0, 99, -99);
        ranks(x, 0, -99, 0);
        ranks(x, 0, -98, 2);
        ranks(x, 0, 0, 2);
        ranks(x, 0, 1, 3);
        ranks(x, 0, 98, 3);
        ranks(x, 0, 99, 3);
        NappingViews full = Scenes.rowsIn(1, new int[16]);
        ranks(full, 2, 0, 0);
        ranks(full, 2, 1, 16);
        ranks(full, 2, 99, 16);
    }

    private static void rankByTheFilter() {
        NappingViews x = Scenes.rowsIn(1, 99, -99, 0, -1, 5);
        x.setFilter(1, 0);
        ranks(x, 1, -99, 0);
        ranks(x, 1, 0, 0);
        ranks(x, 1, 1, 1);
        ranks(x, 1, 99, 2);
        ranks(x, 0, 1, 3);
    }

    // ---- "the number of unlike amounts"

    private static void unlikeAmounts() {
        NappingViews x = new NappingViews();
        for (int n = 0; n < 16; n++) {
            x.insert(n, 0, 15 - n);
            is("45: all unlike", x.unlikeOf(0, 0), n + 1);
        }
        for (int n = 0; n < 16; n++) {
            x.change(n, 50);
            is("45: more and more alike", x.unlikeOf(0, 0), Math.min(16, 16 - n));
        }
        NappingViews y = Scenes.rowsIn(3, 4, -4, 4, -4, 0);
        is("45: an amount and its opposite", y.unlikeOf(0, 3), 3);
        y.regroup(4, 2);
        is("45: of the group alone", y.unlikeOf(0, 3), 2);
        y.setFilter(0, 4);
        is("45: by the filter", y.unlikeOf(0, 3), 1);
    }

    // ---- "The table tells the same by its rows whose amount is the filter of the view or more."

    private static void theViewIsBehindTheTableIsNot() {
        NappingViews x = Scenes.rowsIn(2, 10, 20, 30, 40);
        x.nap(0);
        x.change(0, 50);
        x.regroup(1, 3);
        x.delete(2);
        is("39: behind", x.countOf(0, 2), 4);
        is("46: as it is", x.countInTable(0, 2), 2);
        is("40: behind", x.sumOf(0, 2), 100);
        is("47: as it is", x.sumInTable(0, 2), 90);
        is("43: behind", x.medianOf(0, 2), 20);
        is("48: as it is", x.medianInTable(0, 2), 40);
        is("44: behind", x.rankOf(0, 2, 45), 4);
        is("49: as it is", x.rankInTable(0, 2, 45), 1);
        is("39: behind, the other group", x.countOf(0, 3), 0);
        is("46: as it is, the other group", x.countInTable(0, 3), 1);
        is("48: as it is, the other group", x.medianInTable(0, 3), 20);
    }

    private static void theTableByEachFilter() {
        NappingViews x = Scenes.rowsIn(0, 10, 20, 30, 40);
        x.setFilter(1, 20);
        x.setFilter(2, 31);
        x.insert(4, 0, 20);
        x.insert(5, 0, 19);
        for (int view = 0; view < 3; view++) {
            is("46: of the view " + view, x.countInTable(view, 0), view == 0 ? 6 : 7 - 3 * view);
            is("39: of the view " + view, x.countOf(view, 0), view == 0 ? 6 : 7 - 3 * view);
        }
        is("47: of the view 0", x.sumInTable(0, 0), 139);
        is("47: of the view 1", x.sumInTable(1, 0), 110);
        is("47: of the view 2", x.sumInTable(2, 0), 40);
        is("48: of the view 0", x.medianInTable(0, 0), 20);
        is("48: of the view 1", x.medianInTable(1, 0), 20);
        is("48: of the view 2", x.medianInTable(2, 0), 40);
        is("49: of the view 0", x.rankInTable(0, 0, 30), 4);
        is("49: of the view 1", x.rankInTable(1, 0, 30), 2);
        is("49: of the view 2", x.rankInTable(2, 0, 99), 1);
    }

    // ---- "A view and the table are unlike in a group, if they do not tell the same count, sum,
    // least, greatest amount, median, or number of unlike amounts."

    // The view 1 holds the first amounts in a group, the table has the second ones by now.
    private static NappingViews between(int group, int[] first, int[] second) {
        NappingViews x = Scenes.rowsIn(group, first);
        x.setBehind(1, 30);
        x.nap(1);
        for (int place = 0; place < 16; place++) {
            boolean was = place < first.length;
            boolean is = place < second.length;
            if (was && is && first[place] != second[place]) {
                x.change(place, second[place]);
            } else if (was && !is) {
                x.delete(place);
            } else if (!was && is) {
                x.insert(place, group, second[place]);
            }
        }
        return x;
    }

    private static void unlike(String what, int[] first, int[] second, boolean due) {
        for (int group = 0; group < 4; group++) {
            int mask = due ? 1 << group : 0;
            is("50: " + what, between(group, first, second).unlikeGroups(1), mask);
            is("50: the other way, " + what, between(group, second, first).unlikeGroups(1), mask);
            is("50: awake, " + what, between(group, first, second).unlikeGroups(0), 0);
            is("51: " + what, between(group, first, second).unlikeIfWoken(1), 0);
        }
    }

    private static void unlikeInOneAnswerAlone() {
        unlikeAlone("count", new int[] {-1, 0, 0, 1}, new int[] {-1, 0, 0, 1, 0});
        unlikeAlone("sum", new int[] {1, 2, 4, 9}, new int[] {1, 2, 5, 9});
        unlikeAlone("least", new int[] {1, 5, 5, 7, 9}, new int[] {2, 5, 5, 6, 9});
        unlikeAlone("greatest", new int[] {1, 2, 5, 7, 9}, new int[] {1, 2, 5, 6, 10});
        unlikeAlone("median", new int[] {1, 3, 5, 9}, new int[] {1, 2, 6, 9});
        unlikeAlone("unlike", new int[] {1, 3, 5, 7, 9}, new int[] {1, 5, 5, 5, 9});
    }

    // The view 0 is awake, so it tells what the table tells: the same but for one answer.
    private static void unlikeAlone(String answer, int[] first, int[] second) {
        RealViews views = new RealViews(between(3, first, second));
        for (String name : new String[] {"count", "sum", "least", "greatest", "median", "unlike"}) {
            boolean same = views.call(name + "Of", 0, 3, 0) == views.call(name + "Of", 1, 3, 0);
            is("50: only " + answer + " is unlike: " + name, same, !name.equals(answer));
        }
        unlike(answer, first, second, true);
    }

    private static void unlikeInEachMask() {
        for (int mask = 0; mask < 16; mask++) {
            NappingViews x = Scenes.rowsIn(0, 1, 1, 1, 1);
            for (int group = 1; group < 4; group++) {
                x.regroup(group, group);
            }
            x.nap(2);
            for (int group = 0; group < 4; group++) {
                x.change(group, (mask >> group & 1) == 1 ? 2 : 1);
            }
            is("50: the groups of " + mask, x.unlikeGroups(2), mask);
            is("50: awake", x.unlikeGroups(0) + x.unlikeGroups(1), 0);
            is("51: woken", x.unlikeIfWoken(2), 0);
            x.refresh(2);
            is("50: refreshed", x.unlikeGroups(2), 0);
        }
    }

    private static void unlikeWithoutAmounts() {
        unlike("one amount and none", new int[] {0}, new int[] {}, true);
        unlike("1 and none", new int[] {1}, new int[] {}, true);
        unlike("two opposites and none", new int[] {-1, 1}, new int[] {}, true);
        unlike("none and none", new int[] {}, new int[] {}, false);
    }

    // Rank is not in the list: they can be alike with other amounts.
    private static void rankDoesNotMakeUnlike() {
        unlike("other amounts, all answers the same", new int[] {1, 3, 5, 7, 20, 30},
                new int[] {1, 3, 5, 8, 19, 30}, false);
        unlike("the same amounts, other places", new int[] {1, 2}, new int[] {2, 1}, false);
        unlike("the same amounts, a change to the same", new int[] {4}, new int[] {4}, false);
        NappingViews x = between(0, new int[] {1, 3, 5, 7, 20, 30}, new int[] {1, 3, 5, 8, 19, 30});
        is("44: the rank", x.rankOf(1, 0, 8), 4);
        is("49: another rank", x.rankInTable(1, 0, 8), 3);
        is("50: alike", x.unlikeGroups(1), 0);
    }

    private static void unlikeByTheFilterOfTheView() {
        NappingViews x = new NappingViews();
        x.setFilter(0, 10);
        x.setFilter(1, 9);
        x.nap(0);
        x.nap(1);
        x.insert(0, 1, 9);
        is("50: below its filter", x.unlikeGroups(0), 0);
        is("50: its filter", x.unlikeGroups(1), 2);
        x.change(0, 10);
        is("50: its filter", x.unlikeGroups(0), 2);
        x.change(0, 8);
        is("50: below each filter", x.unlikeGroups(0) + x.unlikeGroups(1), 0);
    }

    // ---- "the groups in which a view and the table would be unlike, if it was woken (0, if it is
    // awake)"

    private static void wokenItIsAlike() {
        for (int deltas = 0; deltas <= 30; deltas++) {
            NappingViews x = Scenes.behindBy(0, deltas);
            is("50: " + deltas, x.unlikeGroups(0), deltas % 2);
            is("51: " + deltas, x.unlikeIfWoken(0), 0);
            is("29: it naps on", x.isNapping(0), true);
            is("32: they wait on", x.waiting(0), deltas);
            is("35: it was not woken", x.wakings(), 0);
            is("51: awake", x.unlikeIfWoken(1), 0);
            x.wake(0);
            is("50: woken", x.unlikeGroups(0), 0);
        }
    }

    // ---- promise 54: the hash of the list, from the answers of the other calls

    private static void digestTellsItsList() {
        listIsTold("new", new NappingViews(), "");
        listIsTold("busy", Scenes.busy(), "i0a");
        listIsTold("full", Scenes.fullTable(), "");
        listIsTold("all napping", Scenes.allNapping(), "");
        listIsTold("a full buffer", Scenes.fullBuffer(), "w0;;".repeat(15));
        listIsTold("all codes at the edges", Scenes.typed("!~"), "!~");
        listIsTold("far behind", Scenes.behindBy(2, 30), "");
        listIsTold("no stop", Scenes.played("t3;i0a-5;i1a0;z0;x0;r2"), "");
        listIsTold("a stop at 0", Scenes.played("w0"), "");
        listIsTold("a third waits", Scenes.behindBy(0, 1), "");
        // "rankOf of 0", "rankInTable of 0": other ranks are told by the amounts beside 0.
        listIsTold("amounts about 0", Scenes.rowsIn(2, -2, -1, 0, 1, 2), "");
        NappingViews x = Scenes.rowsIn(1, -1, 0, 0, 1);
        x.nap(1);
        x.change(3, -1);
        x.delete(0);
        listIsTold("amounts about 0, behind", x, "");
    }

    private static void listIsTold(String what, NappingViews x, String buffer) {
        is("54: " + what, x.digest(), DigestByLooks.of(x, buffer));
    }

    private static void digestTellsEachChange() {
        Set<Long> told = new HashSet<>();
        NappingViews x = new NappingViews();
        told.add(x.digest());
        Scenes.Deed[] deeds = {
            y -> y.insert(0, 0, 0), y -> y.change(0, 1), y -> y.regroup(0, 1), y -> y.nap(0),
            y -> y.pass(1), y -> y.delete(0), y -> y.wake(0), y -> y.refresh(0),
            y -> y.setFilter(0, 0), y -> y.append('t'), y -> y.append('1'), NappingViews::replay,
            NappingViews::undo};
        for (Scenes.Deed deed : deeds) {
            deed.on(x);
            is("54: another hash, " + told.size(), told.add(x.digest()), true);
        }
    }

    // "the bits of behindShare (as Double.doubleToLongBits)": of 0 to 30 deltas that wait, and of
    // as many for three views, among few and many that are written.
    private static void digestTellsTheBitsOfEachShare() {
        for (int before = 0; before <= 40; before++) {
            for (int waiting = 0; waiting <= 30; waiting++) {
                NappingViews x = new NappingViews();
                Scenes.writeDeltas(x, before);
                x.setBehind(1, 30);
                x.nap(1);
                Scenes.writeDeltas(x, waiting);
                shareIsTold(x, waiting, before + waiting);
            }
        }
        for (int changes = 0; changes <= 250; changes += 10) {
            NappingViews x = Scenes.rowsIn(0, 1);
            for (int i = 0; i < changes; i++) {
                x.change(0, i % 2);
            }
            for (int view = 0; view < 3; view++) {
                x.nap(view);
            }
            x.change(0, 5);
            shareIsTold(x, 6, 3 + 2 * changes);
        }
    }

    private static void shareIsTold(NappingViews x, int waiting, int written) {
        double due = written == 0 ? 0.0 : (double) waiting / (3.0 * written);
        is("53: " + waiting + " of three times " + written, x.behindShare(), due);
        is("54: " + waiting + " of three times " + written, x.digest(), DigestByLooks.of(x, ""));
    }
}
