/**
 * The sentences of "The table" and of "Deltas, the log" that name a boundary case, and those of the
 * promises 1 to 5, 23 to 28 and 38 that rest on them. Wrong arguments are in RefusalTest.
 */
public final class TableEdgesTest {
    private static final Class<?> STATE = IllegalStateException.class;
    private static final Check CHECK = new Check("TableEdgesTest");

    public static void main(String[] args) {
        allPlacesAreFreeAtFirst();
        sixteenRowsAreTheMost();
        eachPlaceHoldsItsOwnRow();
        aPlaceIsFreeAgain();
        eachGroup();
        eachAmount();
        insertAnswersTheRowsThen();
        insertWritesOneDelta();
        deleteWritesOneDelta();
        changeWritesTwoDeltas();
        regroupWritesTwoDeltas();
        twoDeltasAlsoIfNothingIsDifferent();
        theOldAmountGoesInTheOldGroup();
        theOldOneGoesAheadOfTheNew();
        deltasAreSeenInTheirOrder();
        theLogGoesRound();
        anObjectServes512Calls();
        CHECK.end();
    }

    private static void is(String what, Object got, Object due) {
        CHECK.is(what, got, due);
    }

    // ---- "The table has 16 places for rows, 0 to 15, at first all free."

    private static void allPlacesAreFreeAtFirst() {
        NappingViews x = new NappingViews();
        is("1: rows of a new object", x.rows(), 0);
        for (int place = 0; place < 16; place++) {
            int p = place;
            is("1: free at first " + place, x.isFree(place), true);
            CHECK.fails("25: no group at " + place, x, STATE, () -> x.groupAt(p));
            CHECK.fails("26: no amount at " + place, x, STATE, () -> x.amountAt(p));
        }
    }

    private static void sixteenRowsAreTheMost() {
        NappingViews x = new NappingViews();
        for (int place = 15; place >= 0; place--) {
            is("2: rows then", x.insert(place, 2, place), 16 - place);
        }
        is("23: a full table", x.rows(), 16);
        for (int place = 0; place < 16; place++) {
            int p = place;
            is("24: taken " + place, x.isFree(place), false);
            CHECK.refused("2: no room at " + place, Scenes::fullTable, STATE,
                    y -> y.insert(p, 0, 0));
        }
        is("39: a view holds all sixteen", x.countOf(0, 2), 16);
        is("46: so does the table", x.countInTable(0, 2), 16);
    }

    private static void eachPlaceHoldsItsOwnRow() {
        NappingViews x = Scenes.fullTable();
        for (int place = 0; place < 16; place++) {
            is("25: group at " + place, x.groupAt(place), place % 4);
            is("26: amount at " + place, x.amountAt(place), 6 * place - 45);
        }
        x.change(15, -1);
        x.regroup(0, 3);
        is("26: the next place is as it was", x.amountAt(14), 39);
        is("25: the next place is as it was", x.groupAt(1), 1);
    }

    private static void aPlaceIsFreeAgain() {
        for (int place = 0; place < 16; place++) {
            NappingViews x = Scenes.fullTable();
            is("5: its amount " + place, x.delete(place), 6 * place - 45);
            is("23: one row less", x.rows(), 15);
            is("24: free " + place, x.isFree(place), true);
            is("24: the first place", x.isFree(0), place == 0);
            is("24: the last place", x.isFree(15), place == 15);
            is("2: full again", x.insert(place, 3, 99), 16);
            is("26: the new amount", x.amountAt(place), 99);
            is("25: the new group", x.groupAt(place), 3);
        }
    }

    // ---- "A row has a group, 0 to 3, and an amount, -99 to 99."

    private static void eachGroup() {
        for (int group = 0; group < 4; group++) {
            for (int next = 0; next < 4; next++) {
                NappingViews x = Scenes.rowsIn(group, 7);
                is("25: group", x.groupAt(0), group);
                is("4: the previous group", x.regroup(0, next), group);
                is("25: the next group", x.groupAt(0), next);
                is("26: the amount stays", x.amountAt(0), 7);
                for (int other = 0; other < 4; other++) {
                    is("39: in the group " + other, x.countOf(1, other), other == next ? 1 : 0);
                }
            }
        }
    }

    private static void eachAmount() {
        for (int amount = -99; amount <= 99; amount++) {
            NappingViews x = new NappingViews();
            x.insert(15, 3, amount);
            is("26: amount", x.amountAt(15), amount);
            is("40: held", x.sumOf(2, 3), amount);
            is("47: in the table", x.sumInTable(2, 3), amount);
            is("3: the previous amount", x.change(15, -amount), amount);
            is("26: the next amount", x.amountAt(15), -amount);
            is("25: the group stays", x.groupAt(15), 3);
            is("5: its amount", x.delete(15), -amount);
        }
    }

    private static void insertAnswersTheRowsThen() {
        NappingViews x = new NappingViews();
        is("2: the first", x.insert(8, 0, 0), 1);
        is("2: the second", x.insert(3, 0, 0), 2);
        x.delete(8);
        is("2: behind a delete", x.insert(4, 0, 0), 2);
        x.change(4, 1);
        x.regroup(4, 1);
        is("2: a change is no row more", x.insert(5, 0, 0), 3);
    }

    // ---- "To insert a row writes one delta into the log: its amount comes in its group. To delete
    // a row writes one: its amount goes. To change [..] writes two [..]"

    // What a call does to the deltas, with a view 0 that naps and has the filter 10.
    private static NappingViews behindAfter(Scenes.Deed deed) {
        NappingViews x = Scenes.rowsIn(1, 10, 9, 10);
        x.setFilter(0, 10);
        x.nap(0);
        is("27: three rows", x.deltas(), 3);
        deed.on(x);
        return x;
    }

    private static void written(String what, Scenes.Deed deed, int deltas, int matters) {
        NappingViews x = behindAfter(deed);
        is("27: " + what, x.deltas(), 3 + deltas);
        is("32: " + what, x.waiting(0), deltas);
        is("33: " + what, x.waitingByNumbers(0), deltas);
        is("34: " + what, x.matters(0), matters);
        is("38: " + what, x.logLength(), deltas);
        is("7: " + what, x.wake(0), deltas);
    }

    private static void insertWritesOneDelta() {
        written("insert", x -> x.insert(3, 0, 11), 1, 1);
        written("insert, below the filter", x -> x.insert(3, 0, 9), 1, 0);
        NappingViews x = behindAfter(y -> y.insert(3, 2, 11));
        x.wake(0);
        is("2: it comes in its group", x.sumOf(0, 2), 11);
        is("2: no other group", x.sumOf(0, 1), 20);
    }

    private static void deleteWritesOneDelta() {
        written("delete", x -> x.delete(0), 1, 1);
        written("delete, below the filter", x -> x.delete(1), 1, 0);
        NappingViews x = behindAfter(y -> y.delete(0));
        x.wake(0);
        is("5: one of two goes", x.sumOf(0, 1), 10);
    }

    private static void changeWritesTwoDeltas() {
        written("change, both above", x -> x.change(0, 12), 2, 2);
        written("change, from above", x -> x.change(0, 9), 2, 1);
        written("change, to above", x -> x.change(1, 10), 2, 1);
        written("change, both below", x -> x.change(1, -99), 2, 0);
    }

    private static void regroupWritesTwoDeltas() {
        written("regroup, above", x -> x.regroup(0, 3), 2, 2);
        written("regroup, below", x -> x.regroup(1, 3), 2, 0);
    }

    // "(also if nothing is different then)"
    private static void twoDeltasAlsoIfNothingIsDifferent() {
        written("change to the same, above", x -> x.change(0, 10), 2, 2);
        written("change to the same, below", x -> x.change(1, 9), 2, 0);
        written("regroup to the same, above", x -> x.regroup(0, 1), 2, 2);
        written("regroup to the same, below", x -> x.regroup(1, 1), 2, 0);
        NappingViews x = Scenes.rowsIn(1, 10);
        is("3: the same amount", x.change(0, 10), 10);
        is("4: the same group", x.regroup(0, 1), 1);
        is("40: held as before", x.sumOf(0, 1), 10);
        is("39: once", x.countOf(0, 1), 1);
    }

    // ---- "first the old amount goes in the old group, then the new one comes in the new group"

    private static void theOldAmountGoesInTheOldGroup() {
        NappingViews x = Scenes.rowsIn(1, 10, 20, 30);
        x.regroup(1, 2);
        is("4: gone from the old group", x.sumOf(0, 1), 40);
        is("4: come in the new group", x.sumOf(0, 2), 20);
        x.change(1, -20);
        is("3: in its group", x.sumOf(0, 2), -20);
        is("3: in no other", x.sumOf(0, 1), 40);
    }

    // Sixteen amounts are the most in a group: there is no room for a seventeenth in between.
    private static void theOldOneGoesAheadOfTheNew() {
        for (int place = 0; place < 16; place++) {
            NappingViews x = new NappingViews();
            Scenes.insertAll(x, 3, new int[16]);
            x.nap(0);
            x.change(place, 99);
            x.regroup(place, 3);
            is("3: awake, all sixteen", x.countOf(1, 3), 16);
            is("3: awake, the new one", x.greatestOf(1, 3), 99);
            is("40: behind", x.sumOf(0, 3), 0);
            x.wake(0);
            is("7: woken, all sixteen", x.countOf(0, 3), 16);
            is("7: woken, the new one", x.sumOf(0, 3), 99);
            is("7: woken, the others", x.unlikeOf(0, 3), 2);
        }
    }

    // ---- "Deltas are numbered from 0 in the order in which they are written."

    private static void deltasAreSeenInTheirOrder() {
        NappingViews x = new NappingViews();
        is("27: at first", x.deltas(), 0);
        x.nap(1);
        x.insert(0, 0, 5);
        x.change(0, 6);
        x.delete(0);
        x.insert(0, 2, 6);
        x.regroup(0, 1);
        is("27: so far", x.deltas(), 7);
        is("7: all of them", x.wake(1), 7);
        is("39: gone", x.countOf(1, 0), 0);
        is("39: gone again", x.countOf(1, 2), 0);
        is("40: what is left", x.sumOf(1, 1), 6);
    }

    // Thirty deltas wait, wherever in the log they begin.
    private static void theLogGoesRound() {
        for (int before = 0; before <= 130; before++) {
            NappingViews x = new NappingViews();
            Scenes.writeDeltas(x, before);
            x.setBehind(2, 30);
            x.nap(2);
            for (int place = 1; place <= 7; place++) {
                x.insert(place, place % 4, -place);
                x.change(place, place);
                x.delete(place);
            }
            x.insert(14, 3, 77);
            x.insert(15, 2, 78);
            String told = " behind " + before;
            is("32:" + told, x.waiting(2), 30);
            is("34:" + told, x.matters(2), 30);
            is("51:" + told, x.unlikeIfWoken(2), 0);
            is("50:" + told, x.unlikeGroups(2), 12);
            is("7:" + told, x.wake(2), 30);
            is("40: the last but one" + told, x.sumOf(2, 3), 77);
            is("40: the last" + told, x.sumOf(2, 2), 78);
            is("39: the first ones went" + told, x.countOf(2, 1), 0);
            is("39: what was there" + told, x.countOf(2, 0), before % 2);
            is("27:" + told, x.deltas(), before + 30);
        }
    }

    // ---- "An object is used for at most 512 calls after it has been made"

    private static void anObjectServes512Calls() {
        NappingViews x = new NappingViews();
        x.insert(0, 0, 0);
        x.nap(0);
        for (int i = 3; i < 508; i++) {
            x.change(0, i % 100);
        }
        is("3: call 508", x.change(0, 98), 7);
        is("40: call 509", x.sumOf(1, 0), 98);
        is("27: call 510", x.deltas(), 1 + 2 * 506);
        is("32: call 511", x.waiting(0), 0);
        is("40: call 512", x.sumOf(0, 0), 98);
        NappingViews y = new NappingViews();
        for (int i = 1; i < 512; i++) {
            y.pass(30);
        }
        is("28: call 512", y.tick(), 511 * 30);
    }
}
