/** Objects that tests begin with, and texts that are typed into them. */
final class Scenes {
    /** Makes an object, the same one each time. */
    interface Made {
        NappingViews make();
    }

    /** A call on an object. */
    interface Deed {
        Object on(NappingViews x);
    }

    private Scenes() {
    }

    static void type(NappingViews x, String text) {
        for (int i = 0; i < text.length(); i++) {
            x.append(text.charAt(i));
        }
    }

    static NappingViews typed(String text) {
        NappingViews x = new NappingViews();
        type(x, text);
        return x;
    }

    // Answers how many parts happen.
    static int play(NappingViews x, String text) {
        x.clearBuffer();
        type(x, text);
        return x.replay();
    }

    static NappingViews played(String text) {
        NappingViews x = new NappingViews();
        play(x, text);
        return x;
    }

    // Rows in one group, at the places from 0 on.
    static NappingViews rowsIn(int group, int... amounts) {
        NappingViews x = new NappingViews();
        insertAll(x, group, amounts);
        return x;
    }

    static void insertAll(NappingViews x, int group, int... amounts) {
        for (int place = 0; place < amounts.length; place++) {
            x.insert(place, group, amounts[place]);
        }
    }

    // Writes one delta with each call: a row with the amount 1 comes to the place 0, or goes.
    static void writeDeltas(NappingViews x, int deltas) {
        for (int i = 0; i < deltas; i++) {
            if (x.isFree(0)) {
                x.insert(0, 0, 1);
            } else {
                x.delete(0);
            }
        }
    }

    // A view that naps, for which so many deltas wait, and the most may.
    static NappingViews behindBy(int view, int deltas) {
        NappingViews x = new NappingViews();
        x.setBehind(view, 30);
        x.nap(view);
        writeDeltas(x, deltas);
        return x;
    }

    // Some of all: rows at 0, 1, 7 and 15; the view 1 naps behind, the view 2 has a filter; five
    // saved states, a snapshot, a stop, and the begin of a text in the buffer.
    static NappingViews busy() {
        NappingViews x = new NappingViews();
        x.insert(0, 0, -99);
        x.insert(15, 3, 99);
        x.insert(7, 1, 10);
        x.setFilter(2, 10);
        x.setBehind(1, 7);
        x.setLongest(2, 5);
        x.nap(1);
        x.keep();
        play(x, "t2;i1c5;x9");
        x.change(7, 11);
        type(x, "i0a");
        return x;
    }

    // Sixteen rows, four in each group; the view 2 naps.
    static NappingViews fullTable() {
        NappingViews x = new NappingViews();
        for (int place = 0; place < 16; place++) {
            x.insert(place, place % 4, 6 * place - 45);
        }
        x.nap(2);
        return x;
    }

    static NappingViews allNapping() {
        NappingViews x = rowsIn(2, 4, 5);
        x.nap(0);
        x.nap(1);
        x.nap(2);
        x.change(1, 6);
        return x;
    }

    // The buffer has 60 characters.
    static NappingViews fullBuffer() {
        NappingViews x = new NappingViews();
        for (int i = 0; i < 15; i++) {
            type(x, "w0;;");
        }
        return x;
    }
}
