import java.util.ArrayList;
import java.util.List;

/** Long runs of calls, told to NappingViews and to ModelViews alike: the answers are the same. */
public final class ModelTest {
    private static final int RUNS = 4000;
    private static final int CALLS_OF_LAST_LOOK = 310;

    private static final int[] EDGES = {
        Integer.MIN_VALUE, -100, -99, -1, 0, 1, 2, 3, 4, 15, 16, 30, 31, 32, 33, 60, 99, 100, 126,
        127, 65536, Integer.MAX_VALUE};

    private final Check check;
    private final Numbers numbers;
    private final int run;
    private final RealViews real = new RealViews(new NappingViews());
    private final ModelViews model = new ModelViews();
    private final List<String> told = new ArrayList<>();
    // A run keeps to small amounts now and then, so that amounts come twice.
    private final int spread;

    private ModelTest(Check check, int run) {
        this.check = check;
        this.run = run;
        numbers = new Numbers(run);
        spread = numbers.oneIn(2) ? 99 : 3;
    }

    public static void main(String[] args) {
        Check check = new Check("ModelTest");
        for (int run = 0; run < RUNS && !check.hasWrong(); run++) {
            new ModelTest(check, run).go();
        }
        check.end();
    }

    private void go() {
        // Every call is looked at in some runs; the others go further instead.
        int gap = numbers.oneIn(2) ? 1 : 12;
        while (real.callsLeft() > CALLS_OF_LAST_LOOK && !check.hasWrong()) {
            step();
            if (numbers.oneIn(gap)) {
                same("digest", 0, 0, 0);
            }
        }
        lookAtAll();
    }

    private void same(String name, int a, int b, int c) {
        if (check.hasWrong() || real.callsLeft() == 0) {
            return;
        }
        String due = answer(true, name, a, b, c);
        String got = answer(false, name, a, b, c);
        told.add(name + "(" + a + ", " + b + ", " + c + ") = " + due);
        check.is("run " + run + ": " + name + "(" + a + ", " + b + ", " + c + ")", got, due);
        if (check.hasWrong()) {
            told.forEach(System.out::println);
        }
    }

    private String answer(boolean ofModel, String name, int a, int b, int c) {
        try {
            return "" + (ofModel ? model.call(name, a, b, c) : real.call(name, a, b, c));
        } catch (IndexOutOfBoundsException | IllegalArgumentException | IllegalStateException e) {
            return e.getClass().getSimpleName();
        }
    }

    private int amount() {
        return numbers.between(-spread, spread);
    }

    private void step() {
        switch (numbers.below(24)) {
            case 0, 1, 2, 3, 4 -> same("insert", numbers.below(16), numbers.below(4), amount());
            case 5, 6, 7 -> same("change", numbers.below(16), amount(), 0);
            case 8, 9 -> same("regroup", numbers.below(16), numbers.below(4), 0);
            case 10 -> same("delete", numbers.below(16), 0, 0);
            case 11, 12, 13 -> same("nap", numbers.below(3), 0, 0);
            case 14 -> same("wake", numbers.below(3), 0, 0);
            case 15 -> same("refresh", numbers.below(3), 0, 0);
            case 16 -> same("setFilter", numbers.below(3), amount(), 0);
            case 17 -> same("setBehind", numbers.below(3), numbers.between(1, 30), 0);
            case 18 -> same("setLongest", numbers.below(3), numbers.between(1, 30), 0);
            case 19 -> same("pass", numbers.oneIn(4) ? numbers.between(1, 30) : 1, 0, 0);
            case 20 -> undoAndKeep();
            case 21 -> looseCall();
            default -> text();
        }
    }

    private void undoAndKeep() {
        switch (numbers.below(4)) {
            case 0 -> same("keep", 0, 0, 0);
            case 1 -> same("restore", 0, 0, 0);
            default -> {
                for (int i = numbers.between(1, 6); i > 0; i--) {
                    same("undo", 0, 0, 0);
                }
            }
        }
    }

    // A call whose arguments are edges, most often wrong ones.
    private void looseCall() {
        String[] names = {"insert", "change", "regroup", "delete", "nap", "wake", "refresh",
            "setFilter", "setBehind", "setLongest", "pass", "append"};
        same(names[numbers.below(names.length)], edge(), edge(), edge());
        same(Looks.OF_GROUPS[numbers.below(Looks.OF_GROUPS.length)], edge(), edge(), edge());
        same(Looks.OF_VIEWS[numbers.below(Looks.OF_VIEWS.length)], edge(), 0, 0);
        same(Looks.OF_PLACES[numbers.below(Looks.OF_PLACES.length)], edge(), 0, 0);
    }

    private int edge() {
        return numbers.oneIn(2) ? numbers.below(4) : EDGES[numbers.below(EDGES.length)];
    }

    private void text() {
        StringBuilder log = new StringBuilder(part());
        int parts = numbers.between(1, numbers.oneIn(4) ? 14 : 4);
        for (int i = 1; i < parts && log.length() < 60; i++) {
            log.append(';').append(part());
        }
        if (numbers.oneIn(4)) {
            log.setCharAt(numbers.below(log.length()), "iugxtzwr=;-0123456789abcde~!".charAt(
                    numbers.below(28)));
        }
        for (int i = 0; i < log.length() && real.callsLeft() > CALLS_OF_LAST_LOOK; i++) {
            same("append", log.charAt(i), 0, 0);
        }
        same("firstError", 0, 0, 0);
        same("replay", 0, 0, 0);
        same("hasStopped", 0, 0, 0);
        same("stoppedPart", 0, 0, 0);
        if (numbers.oneIn(2)) {
            same("clearBuffer", 0, 0, 0);
        }
    }

    private String part() {
        int place = numbers.below(16);
        char group = (char) ('a' + numbers.below(4));
        return switch (numbers.below(10)) {
            case 0, 1, 2 -> "i" + place + group + amount();
            case 3 -> "u" + place + "=" + amount();
            case 4 -> "g" + place + group;
            case 5 -> "x" + place;
            case 6 -> "t" + numbers.between(1, numbers.oneIn(3) ? 30 : 3);
            case 7 -> "w" + numbers.below(3);
            case 8 -> "r" + numbers.below(3);
            default -> "z" + numbers.below(3);
        };
    }

    private void lookAtAll() {
        for (String name : Looks.OF_ALL) {
            same(name, 0, 0, 0);
        }
        for (String name : Looks.OF_PLACES) {
            for (int place = 0; place < 16; place++) {
                same(name, place, 0, 0);
            }
        }
        for (int view = 0; view < 3; view++) {
            for (String name : Looks.OF_VIEWS) {
                same(name, view, 0, 0);
            }
            for (String name : Looks.OF_GROUPS) {
                for (int group = 0; group < 4; group++) {
                    same(name, view, group, amount());
                }
            }
        }
        while (real.callsLeft() > 1 && !check.hasWrong()) {
            same("undo", 0, 0, 0);
            same("digest", 0, 0, 0);
        }
    }
}
