/**
 * "A call that throws an exception changes nothing. If several exceptions apply, the one that is
 * named first in the throws clause is thrown." Each call with each mixture of arguments at the
 * edges and behind them, on objects that are empty, full, and in the midst of things.
 */
public final class RefusalTest {
    private static final Class<?> BOUNDS = IndexOutOfBoundsException.class;
    private static final Class<?> ARGUMENT = IllegalArgumentException.class;
    private static final Class<?> STATE = IllegalStateException.class;
    private static final Check CHECK = new Check("RefusalTest");

    private static final int MIN = Integer.MIN_VALUE;
    private static final int MAX = Integer.MAX_VALUE;
    private static final int[] PLACES = {MIN, -1, 0, 1, 2, 7, 14, 15, 16, MAX};
    private static final int[] GROUPS = {MIN, -1, 0, 3, 4, MAX};
    private static final int[] AMOUNTS = {MIN, -100, -99, 99, 100, MAX};
    private static final int[] VIEWS = {MIN, -1, 0, 1, 2, 3, MAX};
    private static final int[] FROM_1_TO_30 = {MIN, -1, 0, 1, 30, 31, MAX};
    private static final int[] CODES = {MIN, -1, 0, 32, 33, 126, 127, 65536 + 'i', MAX};

    // An object, with the places of its rows, its views that nap, and its groups without amounts.
    private record Scene(String name, Scenes.Made made, String rows, String naps, String told) {
        boolean hasRow(int place) {
            return rows.contains(" " + place + " ");
        }

        boolean naps(int view) {
            return naps.contains(" " + view + " ");
        }

        // Whether a view, or the table by its filter, tells an amount of a group.
        boolean tells(String by, int view, int group) {
            return told.contains(" " + by + view + group + " ");
        }
    }

    // In told, "v12" is the group 2 as the view 1 tells it, "t12" the same as the table tells it.
    private static final Scene[] SCENES = {
        new Scene("new", NappingViews::new, "", "", ""),
        new Scene("busy", Scenes::busy, " 0 1 7 15 ", " 1 ",
                " v00 v01 v02 v03 v10 v11 v13 v21 v23 t00 t01 t02 t03 t10 t11 t12 t13 t21 t23 "),
        new Scene("full", Scenes::fullTable, " 0 1 2 3 4 5 6 7 8 9 10 11 12 13 14 15 ", " 2 ",
                " v00 v01 v02 v03 v10 v11 v12 v13 v20 v21 v22 v23 "
                + "t00 t01 t02 t03 t10 t11 t12 t13 t20 t21 t22 t23 "),
        new Scene("all napping", Scenes::allNapping, " 0 1 ", " 0 1 2 ",
                " v02 v12 v22 t02 t12 t22 "),
    };

    public static void main(String[] args) {
        for (Scene scene : SCENES) {
            inserts(scene);
            changes(scene);
            regroups(scene);
            deletesAndPlaces(scene);
            views(scene);
            filtersAndBounds(scene);
            passes(scene);
            groups(scene);
            ranks(scene);
        }
        appends();
        replays();
        stops();
        undoAndRestore();
        CHECK.end();
    }

    private static boolean isPlace(int place) {
        return 0 <= place && place <= 15;
    }

    private static boolean isGroup(int group) {
        return 0 <= group && group <= 3;
    }

    private static boolean isAmount(int amount) {
        return -99 <= amount && amount <= 99;
    }

    private static boolean isView(int view) {
        return 0 <= view && view <= 2;
    }

    private static boolean isBound(int bound) {
        return 1 <= bound && bound <= 30;
    }

    // The first of the exceptions that applies, in the order of the throws clause; or none.
    private static void due(Scene scene, String call, boolean inBounds, boolean inRange,
            boolean inState, Scenes.Deed deed) {
        String what = call + " on " + scene.name;
        if (inBounds && inRange && inState) {
            CHECK.accepted(what, scene.made, deed);
        } else if (inBounds) {
            CHECK.refused(what, scene.made, inRange ? STATE : ARGUMENT, deed);
        } else {
            CHECK.refused(what, scene.made, BOUNDS, deed);
        }
    }

    // ---- promises 2 to 5, 24 to 26

    private static void inserts(Scene scene) {
        for (int place : PLACES) {
            for (int group : GROUPS) {
                for (int amount : AMOUNTS) {
                    due(scene, "2: insert " + place + " " + group + " " + amount,
                            isPlace(place) && isGroup(group), isAmount(amount),
                            !scene.hasRow(place), x -> x.insert(place, group, amount));
                }
            }
        }
    }

    private static void changes(Scene scene) {
        for (int place : PLACES) {
            for (int amount : AMOUNTS) {
                due(scene, "3: change " + place + " " + amount, isPlace(place), isAmount(amount),
                        scene.hasRow(place), x -> x.change(place, amount));
            }
        }
    }

    private static void regroups(Scene scene) {
        for (int place : PLACES) {
            for (int group : GROUPS) {
                due(scene, "4: regroup " + place + " " + group, isPlace(place) && isGroup(group),
                        true, scene.hasRow(place), x -> x.regroup(place, group));
            }
        }
    }

    private static void deletesAndPlaces(Scene scene) {
        for (int place : PLACES) {
            boolean is = isPlace(place);
            boolean has = scene.hasRow(place);
            due(scene, "5: delete " + place, is, true, has, x -> x.delete(place));
            due(scene, "24: isFree " + place, is, true, true, x -> x.isFree(place) ? 1 : 0);
            due(scene, "25: groupAt " + place, is, true, has, x -> x.groupAt(place));
            due(scene, "26: amountAt " + place, is, true, has, x -> x.amountAt(place));
        }
    }

    // ---- promises 6 to 12, 29 to 34, 50 to 52

    private static void views(Scene scene) {
        for (int v : VIEWS) {
            boolean is = isView(v);
            due(scene, "6: nap " + v, is, true, !scene.naps(v), x -> x.nap(v));
            due(scene, "7: wake " + v, is, true, scene.naps(v), x -> x.wake(v));
            due(scene, "8: refresh " + v, is, true, true, x -> x.refresh(v));
            due(scene, "29: isNapping " + v, is, true, true, x -> x.isNapping(v) ? 1 : 0);
            due(scene, "30: napOf " + v, is, true, true, x -> x.napOf(v));
            due(scene, "31: filterOf " + v, is, true, true, x -> x.filterOf(v));
            due(scene, "32: waiting " + v, is, true, true, x -> x.waiting(v));
            due(scene, "33: waitingByNumbers " + v, is, true, true, x -> x.waitingByNumbers(v));
            due(scene, "34: matters " + v, is, true, true, x -> x.matters(v));
            due(scene, "50: unlikeGroups " + v, is, true, true, x -> x.unlikeGroups(v));
            due(scene, "51: unlikeIfWoken " + v, is, true, true, x -> x.unlikeIfWoken(v));
            due(scene, "52: wakesIn " + v, is, true, true, x -> x.wakesIn(v));
        }
    }

    private static void filtersAndBounds(Scene scene) {
        for (int v : VIEWS) {
            for (int least : AMOUNTS) {
                due(scene, "9: setFilter " + v + " " + least, isView(v), isAmount(least), true,
                        x -> x.setFilter(v, least));
            }
            for (int bound : FROM_1_TO_30) {
                due(scene, "10: setBehind " + v + " " + bound, isView(v), isBound(bound), true,
                        x -> x.setBehind(v, bound));
                due(scene, "11: setLongest " + v + " " + bound, isView(v), isBound(bound), true,
                        x -> x.setLongest(v, bound));
            }
        }
    }

    private static void passes(Scene scene) {
        for (int ticks : FROM_1_TO_30) {
            due(scene, "12: pass " + ticks, true, isBound(ticks), true, x -> x.pass(ticks));
        }
    }

    // ---- promises 39 to 49

    private static void groups(Scene scene) {
        for (int v : VIEWS) {
            for (int g : GROUPS) {
                String told = " " + v + " " + g;
                boolean are = isView(v) && isGroup(g);
                boolean held = scene.tells("v", v, g);
                boolean inTable = scene.tells("t", v, g);
                due(scene, "39: countOf" + told, are, true, true, x -> x.countOf(v, g));
                due(scene, "40: sumOf" + told, are, true, true, x -> x.sumOf(v, g));
                due(scene, "41: leastOf" + told, are, true, held, x -> x.leastOf(v, g));
                due(scene, "42: greatestOf" + told, are, true, held, x -> x.greatestOf(v, g));
                due(scene, "43: medianOf" + told, are, true, held, x -> x.medianOf(v, g));
                due(scene, "45: unlikeOf" + told, are, true, true, x -> x.unlikeOf(v, g));
                due(scene, "46: countInTable" + told, are, true, true, x -> x.countInTable(v, g));
                due(scene, "47: sumInTable" + told, are, true, true, x -> x.sumInTable(v, g));
                due(scene, "48: medianInTable" + told, are, true, inTable,
                        x -> x.medianInTable(v, g));
            }
        }
    }

    private static void ranks(Scene scene) {
        for (int v : VIEWS) {
            for (int g : GROUPS) {
                for (int amount : AMOUNTS) {
                    String told = " " + v + " " + g + " " + amount;
                    boolean are = isView(v) && isGroup(g);
                    due(scene, "44: rankOf" + told, are, isAmount(amount), true,
                            x -> x.rankOf(v, g, amount));
                    due(scene, "49: rankInTable" + told, are, isAmount(amount), true,
                            x -> x.rankInTable(v, g, amount));
                }
            }
        }
    }

    // ---- promises 13, 16 and 18 to 21

    private static void appends() {
        Scene begun = SCENES[1];
        Scene full = new Scene("a full buffer", Scenes::fullBuffer, "", "", "");
        Scene oneLess = new Scene("59 characters", RefusalTest::oneLess, "", "", "");
        for (int code : CODES) {
            boolean is = 33 <= code && code <= 126;
            due(begun, "13: append " + code, true, is, true, x -> x.append(code));
            due(oneLess, "13: append " + code, true, is, true, x -> x.append(code));
            due(full, "13: append " + code, true, is, false, x -> x.append(code));
        }
    }

    private static NappingViews oneLess() {
        return Scenes.typed("t1;".repeat(19) + "t3");
    }

    private static void replays() {
        for (Scene scene : SCENES) {
            for (String text : new String[] {"", "x", "x0;", "i0a-", "t0", "i0a1;i1a1;z3", "x01"}) {
                CHECK.refused("16: replay of '" + text + "' on " + scene.name, () -> {
                    NappingViews x = scene.made.make();
                    x.clearBuffer();
                    Scenes.type(x, text);
                    return x;
                }, ARGUMENT, NappingViews::replay);
            }
        }
        CHECK.refused("16: replay of a full buffer", Scenes::fullBuffer, ARGUMENT,
                NappingViews::replay);
        CHECK.accepted("16: replay of 59 characters", RefusalTest::oneLess, NappingViews::replay);
    }

    private static void stops() {
        CHECK.refused("18: without a replay", NappingViews::new, STATE, NappingViews::stoppedPart);
        CHECK.refused("18: no stop", () -> Scenes.played("t1"), STATE, NappingViews::stoppedPart);
        CHECK.refused("18: a stop, and then none", () -> {
            NappingViews x = Scenes.busy();
            Scenes.play(x, "t1");
            return x;
        }, STATE, NappingViews::stoppedPart);
        CHECK.accepted("18: a stop", Scenes::busy, NappingViews::stoppedPart);
    }

    private static void undoAndRestore() {
        CHECK.refused("19: nothing saved", NappingViews::new, STATE, NappingViews::undo);
        CHECK.refused("19: all undone", () -> {
            NappingViews x = Scenes.busy();
            for (int i = 0; i < 5; i++) {
                x.undo();
            }
            return x;
        }, STATE, NappingViews::undo);
        CHECK.accepted("19: one saved", () -> Scenes.played("x0"), NappingViews::undo);
        CHECK.refused("21: no snapshot", NappingViews::new, STATE, NappingViews::restore);
        CHECK.refused("21: no snapshot, many rows", Scenes::fullTable, STATE,
                NappingViews::restore);
        CHECK.accepted("21: a snapshot", Scenes::busy, NappingViews::restore);
    }
}
