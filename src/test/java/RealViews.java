/** NappingViews, called by name: answers as numbers, and a count of its calls. */
final class RealViews {
    // What later calls of an object answer is free.
    static final int MOST_CALLS = 512;

    private final NappingViews views;
    private int calls;

    RealViews(NappingViews views) {
        this.views = views;
    }

    int callsLeft() {
        return MOST_CALLS - calls;
    }

    long call(String name, int a, int b, int c) {
        calls++;
        return switch (name) {
            case "insert" -> views.insert(a, b, c);
            case "change" -> views.change(a, b);
            case "regroup" -> views.regroup(a, b);
            case "delete" -> views.delete(a);
            case "nap" -> views.nap(a);
            case "wake" -> views.wake(a);
            case "refresh" -> views.refresh(a);
            case "setFilter" -> views.setFilter(a, b);
            case "setBehind" -> views.setBehind(a, b);
            case "setLongest" -> views.setLongest(a, b);
            case "pass" -> views.pass(a);
            case "append" -> views.append(a);
            case "clearBuffer" -> views.clearBuffer();
            case "firstError" -> views.firstError();
            case "replay" -> views.replay();
            case "hasStopped" -> views.hasStopped() ? 1 : 0;
            case "stoppedPart" -> views.stoppedPart();
            case "undo" -> views.undo();
            case "keep" -> views.keep();
            case "restore" -> views.restore();
            case "savedStates" -> views.savedStates();
            default -> look(name, a, b, c);
        };
    }

    private long look(String name, int a, int b, int c) {
        return switch (name) {
            case "rows" -> views.rows();
            case "isFree" -> views.isFree(a) ? 1 : 0;
            case "groupAt" -> views.groupAt(a);
            case "amountAt" -> views.amountAt(a);
            case "deltas" -> views.deltas();
            case "tick" -> views.tick();
            case "isNapping" -> views.isNapping(a) ? 1 : 0;
            case "napOf" -> views.napOf(a);
            case "filterOf" -> views.filterOf(a);
            case "waiting" -> views.waiting(a);
            case "waitingByNumbers" -> views.waitingByNumbers(a);
            case "matters" -> views.matters(a);
            case "wakings" -> views.wakings();
            case "wakingsByThemselves" -> views.wakingsByThemselves();
            case "refreshes" -> views.refreshes();
            case "logLength" -> views.logLength();
            case "countOf" -> views.countOf(a, b);
            case "sumOf" -> views.sumOf(a, b);
            case "leastOf" -> views.leastOf(a, b);
            case "greatestOf" -> views.greatestOf(a, b);
            case "medianOf" -> views.medianOf(a, b);
            case "rankOf" -> views.rankOf(a, b, c);
            case "unlikeOf" -> views.unlikeOf(a, b);
            case "countInTable" -> views.countInTable(a, b);
            case "sumInTable" -> views.sumInTable(a, b);
            case "medianInTable" -> views.medianInTable(a, b);
            case "rankInTable" -> views.rankInTable(a, b, c);
            case "unlikeGroups" -> views.unlikeGroups(a);
            case "unlikeIfWoken" -> views.unlikeIfWoken(a);
            case "wakesIn" -> views.wakesIn(a);
            case "behindShare" -> Double.doubleToLongBits(views.behindShare());
            case "digest" -> views.digest();
            default -> throw new UnsupportedOperationException(name);
        };
    }
}
