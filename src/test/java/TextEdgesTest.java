/**
 * The sentences of "Input text" that name a boundary case, and those of the promises 13 to 18 that
 * rest on them. Codes that are no codes, and a buffer that is full, are in RefusalTest too.
 */
public final class TextEdgesTest {
    private static final Class<?> ARGUMENT = IllegalArgumentException.class;
    private static final Class<?> STATE = IllegalStateException.class;
    private static final Check CHECK = new Check("TextEdgesTest");

    private static final String DIGITS = "0123456789";
    private static final String NOT_0 = "123456789";
    private static final String LETTERS = "abcd";

    // What a log as a text begins with, and the characters that can come next.
    private static final String[][] NEXT = {
        {"", "iugxtzwr"},
        {"x0;", "iugxtzwr"},
        {"i", DIGITS},
        {"i0", LETTERS},
        {"i1", "012345" + LETTERS},
        {"i2", LETTERS},
        {"i9", LETTERS},
        {"i10", LETTERS},
        {"i15", LETTERS},
        {"i3a", "-" + DIGITS},
        {"i15d", "-" + DIGITS},
        {"i3a-", NOT_0},
        {"i3a-1", DIGITS + ";"},
        {"i3a-9", DIGITS + ";"},
        {"i3a-10", ";"},
        {"i3a-99", ";"},
        {"i3a0", ";"},
        {"i3a1", DIGITS + ";"},
        {"i3a9", DIGITS + ";"},
        {"i3a10", ";"},
        {"i3a99", ";"},
        {"u", DIGITS},
        {"u0", "="},
        {"u1", "012345="},
        {"u2", "="},
        {"u9", "="},
        {"u10", "="},
        {"u15", "="},
        {"u3=", "-" + DIGITS},
        {"u15=", "-" + DIGITS},
        {"u3=-", NOT_0},
        {"u3=-1", DIGITS + ";"},
        {"u3=-9", DIGITS + ";"},
        {"u3=-10", ";"},
        {"u3=-99", ";"},
        {"u3=0", ";"},
        {"u3=1", DIGITS + ";"},
        {"u3=9", DIGITS + ";"},
        {"u3=10", ";"},
        {"u3=99", ";"},
        {"g", DIGITS},
        {"g0", LETTERS},
        {"g1", "012345" + LETTERS},
        {"g2", LETTERS},
        {"g9", LETTERS},
        {"g10", LETTERS},
        {"g15", LETTERS},
        {"g3a", ";"},
        {"g3d", ";"},
        {"x", DIGITS},
        {"x0", ";"},
        {"x1", "012345;"},
        {"x2", ";"},
        {"x9", ";"},
        {"x10", ";"},
        {"x15", ";"},
        {"t", NOT_0},
        {"t1", DIGITS + ";"},
        {"t2", DIGITS + ";"},
        {"t3", "0;"},
        {"t4", ";"},
        {"t9", ";"},
        {"t10", ";"},
        {"t29", ";"},
        {"t30", ";"},
        {"z", "012"},
        {"z0", ";"},
        {"z1", ";"},
        {"z2", ";"},
        {"w", "012"},
        {"w0", ";"},
        {"w1", ";"},
        {"w2", ";"},
        {"r", "012"},
        {"r0", ";"},
        {"r1", ";"},
        {"r2", ";"},
    };

    public static void main(String[] args) {
        theBufferHasAtMost60Characters();
        eachCodeIsTaken();
        clearAnswersTheLength();
        nothingIsLeftBehindAClear();
        eachCharacterBehindEachBegin();
        theFirstErrorIsTold();
        anyLengthIsALog();
        completeTexts();
        theBufferStaysIfNotComplete();
        placesInTexts();
        groupsInTexts();
        amountsInTexts();
        ticksInTexts();
        viewsInTexts();
        numbersHaveNoLeadingZeros();
        aTextOfOnePart();
        theMostParts();
        upToTheFirstPartThatWouldThrow();
        aPartThatAlwaysCanBe();
        partsBeforeTheStopHappen();
        theBufferIsClearThen();
        oneCallForUndo();
        withoutAReplayNothingHasStopped();
        theLatestReplayTells();
        aReplayThatThrowsDoesNotCount();
        CHECK.end();
    }

    private static void is(String what, Object got, Object due) {
        CHECK.is(what, got, due);
    }

    private static int errorIn(String text) {
        return Scenes.typed(text).firstError();
    }

    // A text, on rows in each place; whether all of it is read, not whether all of it happens.
    private static void readWhole(String text, boolean due) {
        NappingViews x = Scenes.typed(text);
        Object got = Looks.outcome(x, NappingViews::replay);
        is("16: complete: '" + text + "'", !got.equals(ARGUMENT), due);
        is("16: cleared: '" + text + "'", x.clearBuffer(), due ? 0 : text.length());
    }

    // ---- "The buffer has at most 60 characters."

    private static void theBufferHasAtMost60Characters() {
        NappingViews x = new NappingViews();
        for (int length = 1; length <= 60; length++) {
            is("13: the new length", x.append('a' + length % 26), length);
        }
        CHECK.fails("13: 61 characters", x, STATE, () -> x.append('a'));
        CHECK.fails("13: no code, and full", x, ARGUMENT, () -> x.append(127));
        is("14: 60", x.clearBuffer(), 60);
        is("13: room again", x.append('a'), 1);
    }

    private static void eachCodeIsTaken() {
        for (int code = 33; code <= 126; code++) {
            NappingViews x = new NappingViews();
            is("13: " + code, x.append(code), 1);
            is("54: " + code, x.digest(), DigestByLooks.of(x, "" + (char) code));
            is("15: " + code, x.firstError(), "iugxtzwr".indexOf(code) >= 0 ? 1 : 0);
        }
    }

    private static void clearAnswersTheLength() {
        for (int length = 0; length <= 60; length++) {
            NappingViews x = Scenes.typed("x".repeat(length));
            is("14: the length", x.clearBuffer(), length);
            is("14: clear by now", x.clearBuffer(), 0);
            is("15: nothing is there", x.firstError(), 0);
            is("13: from the begin", x.append('x'), 1);
            is("22: nothing is saved", x.savedStates(), 0);
        }
    }

    // What was typed before is not read, though it would go on with the text.
    private static void nothingIsLeftBehindAClear() {
        for (String[] row : NEXT) {
            for (int i = 0; i < row[1].length(); i++) {
                String longer = row[0] + row[1].charAt(i) + "1a;t1";
                NappingViews x = Scenes.typed(longer);
                x.clearBuffer();
                Scenes.type(x, row[0]);
                String told = "'" + row[0] + "' behind '" + longer + "'";
                is("15: " + told, x.firstError(), row[0].length());
                is("54: " + told, x.digest(), Scenes.typed(row[0]).digest());
                boolean complete = row[1].endsWith(";");
                is("16: " + told, Looks.outcome(x, NappingViews::replay).equals(ARGUMENT),
                        !complete);
            }
        }
        NappingViews x = Scenes.played("i0a12;u0=34;g0d;t2");
        Scenes.type(x, "u0=5");
        is("16: one part alone", x.replay(), 1);
        is("26: its amount alone", x.amountAt(0), 5);
    }

    // ---- "a character is a syntax error if no log as a text, of any length, begins with the
    // characters before it and this character"

    private static void eachCharacterBehindEachBegin() {
        for (String[] row : NEXT) {
            for (String before : new String[] {"", "t1;", "i10b-10;u0=0;g3c;x9;r1;"}) {
                String begin = before + row[0];
                is("15: '" + begin + "'", errorIn(begin), begin.length());
                for (char c = 33; c <= 126; c++) {
                    int due = begin.length() + (row[1].indexOf(c) >= 0 ? 1 : 0);
                    is("15: '" + begin + c + "'", errorIn(begin + c), due);
                }
            }
        }
    }

    // "The buffer is read from left to right"
    private static void theFirstErrorIsTold() {
        for (String[] row : NEXT) {
            int due = row[0].length();
            is("15: one error", errorIn(row[0] + "?"), due);
            is("15: two errors", errorIn(row[0] + "??"), due);
            is("15: what would be right behind it", errorIn(row[0] + "?;x0;t1"), due);
        }
        is("15: the length", errorIn(""), 0);
        is("15: the first of all", errorIn(";;;"), 0);
        is("15: a second ';'", errorIn("x0;;x0"), 3);
        is("15: capital letters", errorIn("T1"), 0);
        is("15: the last of 60", errorIn("t1;".repeat(19) + "t1a"), 59);
    }

    private static void anyLengthIsALog() {
        String most = "t1;".repeat(19);
        for (String end : new String[] {"i14", "i2b", "u0=", "u15", "g12", "x0;", "t1;", "r2;"}) {
            is("15: 60 characters, " + end, errorIn(most + end), 60);
            readWhole(most + end, false);
        }
        is("15: 60 characters, complete", errorIn(most + "t30"), 60);
        is("15: one part that is open", errorIn("i15a-"), 5);
    }

    // ---- "if the buffer is not a complete log as a text (the buffer stays)"

    // A text is complete just if a ';' can come next.
    private static void completeTexts() {
        for (String[] row : NEXT) {
            readWhole(row[0], row[1].endsWith(";"));
            readWhole("t3;" + row[0], row[1].endsWith(";"));
            readWhole(row[0] + ";", false);
            readWhole(row[0] + "?", false);
        }
        readWhole("", false);
        readWhole(";", false);
        readWhole(";x0", false);
        readWhole("x0;;x0", false);
        readWhole("x0;x0;x0", true);
        readWhole("t1;".repeat(19) + "t30", true);
        readWhole("t1;".repeat(20), false);
    }

    private static void theBufferStaysIfNotComplete() {
        NappingViews x = Scenes.typed("i0a5;x");
        CHECK.fails("16: not complete", x, ARGUMENT, x::replay);
        is("23: not a part of it happens", x.rows(), 0);
        is("22: nothing is saved", x.savedStates(), 0);
        Scenes.type(x, "0");
        is("16: complete by now", x.replay(), 2);
        is("27: both parts", x.deltas(), 2);
        CHECK.fails("16: clear by now", x, ARGUMENT, x::replay);
    }

    // ---- "a place, 0 to 15", "a group as a letter from "a" to "d"", "a number from 0 to 99, or
    // "-" and a number from 1 to 99", "ticks, 1 to 30", "a view, 0 to 2"

    private static void placesInTexts() {
        for (int place = 0; place <= 170; place++) {
            boolean is = place <= 15;
            readWhole("i" + place + "a0", is);
            readWhole("u" + place + "=0", is);
            readWhole("g" + place + "a", is);
            readWhole("x" + place, is);
        }
        for (int place = 0; place <= 15; place++) {
            NappingViews x = new NappingViews();
            is("16: i", Scenes.play(x, "i" + place + "b7"), 1);
            is("26: inserted " + place, x.amountAt(place), 7);
            is("16: u", Scenes.play(x, "u" + place + "=8"), 1);
            is("26: changed " + place, x.amountAt(place), 8);
            is("16: g", Scenes.play(x, "g" + place + "c"), 1);
            is("25: regrouped " + place, x.groupAt(place), 2);
            is("23: one row", x.rows(), 1);
            is("16: x", Scenes.play(x, "x" + place), 1);
            is("24: deleted " + place, x.isFree(place), true);
        }
    }

    private static void groupsInTexts() {
        for (char letter = 33; letter <= 126; letter++) {
            boolean is = letter >= 'a' && letter <= 'd';
            readWhole("g12" + letter, is);
            readWhole("i12" + letter + "1", is);
        }
        for (int group = 0; group < 4; group++) {
            NappingViews x = Scenes.played("i0a1;i1" + LETTERS.charAt(group) + "2");
            is("25: inserted", x.groupAt(1), group);
            Scenes.play(x, "g0" + LETTERS.charAt(group));
            is("25: regrouped", x.groupAt(0), group);
        }
    }

    private static void amountsInTexts() {
        for (int amount = -120; amount <= 120; amount++) {
            boolean is = -99 <= amount && amount <= 99;
            readWhole("i0a" + amount, is);
            readWhole("u0=" + amount, is);
            if (is) {
                NappingViews x = Scenes.played("i15d" + amount + ";i0a0;u0=" + amount);
                is("26: inserted", x.amountAt(15), amount);
                is("26: changed", x.amountAt(0), amount);
            }
        }
        readWhole("i0a-0", false);
        readWhole("u0=-0", false);
        readWhole("i0a+1", false);
        readWhole("i0a--1", false);
        readWhole("i0a1-", false);
    }

    private static void ticksInTexts() {
        for (int ticks = 0; ticks <= 310; ticks++) {
            boolean is = 1 <= ticks && ticks <= 30;
            readWhole("t" + ticks, is);
            if (is) {
                is("28: by a text", Scenes.played("t" + ticks).tick(), ticks);
            }
        }
        readWhole("t-1", false);
    }

    private static void viewsInTexts() {
        for (int view = 0; view <= 22; view++) {
            readWhole("z" + view, view <= 2);
            readWhole("w" + view, view <= 2);
            readWhole("r" + view, view <= 2);
        }
        for (int view = 0; view < 3; view++) {
            NappingViews x = Scenes.played("z" + view + ";i0a1;t2;r" + view);
            is("29: z", x.isNapping(view), true);
            is("30: t", x.napOf(view), 2);
            is("39: r", x.countOf(view, 0), 1);
            is("37: r", x.refreshes(), 1);
            is("16: w", Scenes.play(x, "x0;w" + view), 2);
            is("29: w", x.isNapping(view), false);
            is("39: it saw the delta", x.countOf(view, 0), 0);
            is("35: w", x.wakings(), 1);
        }
    }

    // "Numbers have no leading zeros"
    private static void numbersHaveNoLeadingZeros() {
        for (int number = 0; number <= 99; number++) {
            for (String begin : new String[] {
                "x", "t", "z", "w", "r", "i0a", "i0a-", "u0=", "u0=-"}) {
                readWhole(begin + "0" + number, false);
                readWhole(begin + "00" + number, false);
            }
            readWhole("i0" + number + "a1", false);
            readWhole("u0" + number + "=1", false);
            readWhole("g0" + number + "a", false);
        }
        is("15: the second digit", errorIn("x00"), 2);
        is("15: the first digit", errorIn("t01"), 1);
        is("15: behind '-'", errorIn("i0a-01"), 4);
    }

    // ---- "one or more parts with ";" between them"

    private static void aTextOfOnePart() {
        NappingViews x = new NappingViews();
        is("16: one", Scenes.play(x, "i0a1"), 1);
        is("16: two", Scenes.play(x, "x0;i0a1"), 2);
        is("16: three", Scenes.play(x, "x0;i0a1;u0=2"), 3);
        is("26: all of them", x.amountAt(0), 2);
    }

    // Parts have two characters or more: twenty are the most.
    private static void theMostParts() {
        NappingViews x = Scenes.rowsIn(0, 1);
        is("16: twenty", Scenes.play(x, "t1;".repeat(19) + "t9"), 20);
        is("28: ticks", x.tick(), 28);
        is("16: nineteen", Scenes.play(x, "t1;".repeat(19) + "w0"), 19);
        is("18: the twentieth", x.stoppedPart(), 19);
        is("16: fifteen regroups", Scenes.play(x, "g0b;".repeat(14) + "g0b"), 15);
        is("27: two deltas each", x.deltas(), 31);
        is("16: of ten, the last one can't be", Scenes.play(x, "u0=-9;".repeat(9) + "i0a-99"), 9);
        is("18: the tenth", x.stoppedPart(), 9);
    }

    // ---- "up to the first part for which the method would throw an exception"

    private static void stopsAt(NappingViews x, String text, int due) {
        is("16: " + text, Scenes.play(x, text), due);
        is("17: " + text, x.hasStopped(), true);
        is("18: " + text, x.stoppedPart(), due);
    }

    private static void upToTheFirstPartThatWouldThrow() {
        for (int place = 0; place <= 15; place++) {
            NappingViews x = new NappingViews();
            stopsAt(x, "x" + place + ";t1", 0);
            stopsAt(x, "u" + place + "=1;t1", 0);
            stopsAt(x, "g" + place + "a;t1", 0);
            stopsAt(x, "i" + place + "a1;i" + place + "a1;t1", 1);
            stopsAt(x, "x" + place + ";x" + place + ";t1", 1);
            is("28: nothing behind a stop happens", x.tick(), 0);
        }
        for (int view = 0; view < 3; view++) {
            NappingViews x = new NappingViews();
            stopsAt(x, "w" + view + ";t1", 0);
            stopsAt(x, "z" + view + ";z" + view + ";t1", 1);
            stopsAt(x, "w" + view + ";w" + view + ";t1", 1);
            stopsAt(x, "z" + view + ";t8;w" + view + ";t1", 2);
            is("28: nothing behind a stop happens", x.tick(), 8);
        }
    }

    private static void aPartThatAlwaysCanBe() {
        NappingViews x = new NappingViews();
        is("16: r, t, awake", Scenes.play(x, "r0;r1;r2;t30;t1"), 5);
        is("17: no stop", x.hasStopped(), false);
        is("16: r, t, napping", Scenes.play(x, "z0;z1;z2;r0;r1;r2;t1"), 7);
        is("17: no stop", x.hasStopped(), false);
    }

    private static void partsBeforeTheStopHappen() {
        NappingViews x = Scenes.played("i0a1;i1b2;z2;u0=3;x5;u1=4;t5");
        is("23: rows", x.rows(), 2);
        is("26: before the stop", x.amountAt(0), 3);
        is("26: behind it", x.amountAt(1), 2);
        is("28: behind it", x.tick(), 0);
        is("32: the view 2 naps", x.waiting(2), 2);
        is("18: the part", x.stoppedPart(), 4);
    }

    private static void theBufferIsClearThen() {
        for (String text : new String[] {"t1", "x0", "t1;x0;t1"}) {
            NappingViews x = Scenes.played(text);
            is("14: behind " + text, x.clearBuffer(), 0);
            is("15: behind " + text, x.firstError(), 0);
            is("13: behind " + text, x.append('t'), 1);
        }
    }

    // ---- "Undoable, as one call, also if nothing happens."

    private static void oneCallForUndo() {
        for (String text : new String[] {"i1a1;i2b2;i3c3;z0;t4;u1=9", "x9", "t1;x9;t1"}) {
            NappingViews x = Scenes.rowsIn(3, 7);
            long before = x.digest();
            Scenes.play(x, text);
            is("22: one state more behind " + text, x.savedStates(), 2);
            is("19: " + text, x.undo(), 1);
            is("54: all is back behind " + text, x.digest(), before);
        }
    }

    // ---- "whether the latest call of replay() that did not throw an exception stopped ahead of
    // the end of its text; false without such a call"

    private static void withoutAReplayNothingHasStopped() {
        NappingViews x = new NappingViews();
        is("17: new", x.hasStopped(), false);
        CHECK.fails("18: new", x, STATE, x::stoppedPart);
        Scenes.type(x, "x0");
        is("17: typed", x.hasStopped(), false);
        x.firstError();
        Looks.outcome(x, y -> y.delete(0));
        is("17: a call of another kind that throws", x.hasStopped(), false);
        Scenes.type(x, "?");
        CHECK.fails("16: not a log", x, ARGUMENT, x::replay);
        is("17: only a call that throws", x.hasStopped(), false);
        CHECK.fails("18: only a call that throws", x, STATE, x::stoppedPart);
    }

    private static void theLatestReplayTells() {
        NappingViews x = new NappingViews();
        Scenes.play(x, "t1;t1;x0;t1");
        is("17: stopped", x.hasStopped(), true);
        is("18: part", x.stoppedPart(), 2);
        x.insert(0, 0, 0);
        x.clearBuffer();
        is("18: it stays behind other calls", x.stoppedPart(), 2);
        Scenes.play(x, "x0;x0");
        is("18: the later one", x.stoppedPart(), 1);
        Scenes.play(x, "t1");
        is("17: no stop", x.hasStopped(), false);
        CHECK.fails("18: no stop", x, STATE, x::stoppedPart);
        Scenes.play(x, "x0");
        is("18: the first part of one", x.stoppedPart(), 0);
    }

    private static void aReplayThatThrowsDoesNotCount() {
        NappingViews x = Scenes.played("t1;x0");
        Scenes.type(x, "t");
        CHECK.fails("16: not complete", x, ARGUMENT, x::replay);
        is("17: the one before", x.hasStopped(), true);
        is("18: the one before", x.stoppedPart(), 1);
        Scenes.play(x, "t1");
        Scenes.type(x, "x0;");
        CHECK.fails("16: not complete either", x, ARGUMENT, x::replay);
        is("17: the one before, without a stop", x.hasStopped(), false);
    }
}
