import java.util.ArrayList;
import java.util.List;
import java.util.function.Consumer;

/**
 * "A call that throws an exception changes nothing. If several exceptions apply, the one that is named
 * first in the throws clause is thrown." In each of some states every kind of refused call is made, just
 * beyond each edge and far beyond it: it must throw what the document names, and what is asked afterwards
 * must be answered as before it, at once and after further values.
 *
 * No watcher is used for more than 512 calls.
 */
public final class RefusedCallTest {
    private static final String ILLEGAL = "throws IllegalArgumentException";
    private static final String NONE = "throws IndexOutOfBoundsException";
    private static final String STATE = "throws IllegalStateException";
    private static final int MIN = Integer.MIN_VALUE;
    private static final int MAX = Integer.MAX_VALUE;

    private record Refused(String name, String due, Consumer<SeriesWatcher> call) {
    }

    /** What the makers of a state know of it, told here by hand rather than asked of the program. */
    private record State(String name, int count, int length, int least, int segments,
            Consumer<SeriesWatcher> maker) {
        SeriesWatcher make() {
            SeriesWatcher x = new SeriesWatcher();
            maker.accept(x);
            return x;
        }
    }

    private static final List<Refused> refused = new ArrayList<>();

    public static void main(String[] args) {
        for (State state : states()) {
            refused.clear();
            refusedValues(state);
            refusedWhereFull(state);
            refusedSettings();
            refusedQuestions(state);
            for (Refused one : refused) {
                refuse(state, one);
            }
        }
        Checks.end("RefusedCallTest");
    }

    private static void refuse(State state, Refused refused) {
        String what = state.name() + ": " + refused.name();
        SeriesWatcher x = state.make();
        Checks.same(what + ": the state's size", x.size(), state.count());
        Checks.same(what + ": the state's segments", x.segments(), state.segments());
        String before = Portrait.brief(x);
        Checks.same(what, outcome(x, refused), refused.due());
        Checks.same("after " + what, Portrait.brief(x), before);
        goOn(x);
        Checks.same("after " + what + " and more values", Portrait.brief(x), briefWithoutRefusal(state));
        SeriesWatcher unasked = state.make();
        Checks.same(what + ", nothing asked before", outcome(unasked, refused), refused.due());
        Checks.same("after " + what + ", every question", Portrait.full(unasked), Portrait.full(state.make()));
    }

    private static String outcome(SeriesWatcher x, Refused refused) {
        return Checks.outcome(() -> refused.call().accept(x));
    }

    private static String briefWithoutRefusal(State state) {
        SeriesWatcher x = state.make();
        goOn(x);
        return Portrait.brief(x);
    }

    /** Values in three heights, so that a setting that was changed after all shows. */
    private static void goOn(SeriesWatcher x) {
        x.drop(x.size() / 2);
        for (int i = 0; i < 30; i++) {
            x.add(i * i % 17 + (i < 11 ? 0 : i < 22 ? 400 : 90));
        }
    }

    private static List<State> states() {
        return List.of(
                new State("a new object", 0, 1, 2, 0, x -> { }),
                new State("one value", 1, 1, 2, 1, x -> x.add(-7)),
                new State("all dropped, settings changed", 0, 5, 3, 0, x -> {
                    settle(x, 5, 3, 40);
                    Watchers.addRuns(x, 5, 6, 90, 6);
                    x.setHoliday(2, true);
                    x.drop(12);
                }),
                new State("two heights", 9, 2, 3, 2, x -> {
                    settle(x, 2, 3, 40);
                    Watchers.addRuns(x, 5, 5, 90, 4);
                    x.correct(6, 91);
                    x.setHoliday(1, true);
                }),
                new State("all holidays", 8, 3, 1, 1, x -> {
                    settle(x, 3, 1, 0);
                    Watchers.addRuns(x, 5, 3, 90, 5);
                    Watchers.holidays(x, 0, 8);
                }),
                new State("14 values", 14, 1, 7, 2, x -> {
                    settle(x, 1, 7, 100);
                    Watchers.addRuns(x, -100, 7, 100, 7);
                }),
                new State("15 values", 15, 12, 8, 1, x -> {
                    settle(x, 12, 8, 0);
                    Watchers.addRuns(x, -100, 7, 100, 8);
                }),
                new State("60 values", 60, 7, 10, 2, x -> {
                    settle(x, 7, 10, 100000);
                    Watchers.addRuns(x, -10000, 30, 10000, 30);
                    Watchers.holidays(x, 58, 60);
                }),
                new State("60 segments", 60, 1, 1, 60, x -> {
                    x.setCuts(1, 0);
                    for (int k = 0; k < 60; k++) {
                        x.add(k % 2 == 0 ? k : -k);
                    }
                }));
    }

    private static void settle(SeriesWatcher x, int length, int least, int penalty) {
        x.setSeason(length);
        x.setCuts(least, penalty);
        x.setBound(250, 3);
    }

    private static void no(String name, String due, Consumer<SeriesWatcher> call) {
        refused.add(new Refused(name, due, call));
    }

    private static void refusedValues(State state) {
        int count = state.count();
        for (int value : new int[] {-10001, 10001, MIN, MAX}) {
            no("add(" + value + ")", ILLEGAL, x -> x.add(value));
            no("addMany(" + value + ", 1)", ILLEGAL, x -> x.addMany(value, 1));
            no("addMany(" + value + ", 60)", ILLEGAL, x -> x.addMany(value, 60));
            no("addMany(" + value + ", 61)", ILLEGAL, x -> x.addMany(value, 61));
            no("correct(size, " + value + ")", NONE, x -> x.correct(count, value));
            no("correct(-1, " + value + ")", NONE, x -> x.correct(-1, value));
            if (count > 0) {
                no("correct(0, " + value + ")", ILLEGAL, x -> x.correct(0, value));
                no("correct(size - 1, " + value + ")", ILLEGAL, x -> x.correct(count - 1, value));
            }
        }
        for (int times : new int[] {0, 61, -1, MIN, MAX}) {
            no("addMany(-10000, " + times + ")", ILLEGAL, x -> x.addMany(-10000, times));
            no("addMany(10000, " + times + ")", ILLEGAL, x -> x.addMany(10000, times));
        }
        for (int k : new int[] {-1, count, MIN, MAX}) {
            no("correct(" + k + ", 5)", NONE, x -> x.correct(k, 5));
            no("setHoliday(" + k + ", true)", NONE, x -> x.setHoliday(k, true));
            no("setHoliday(" + k + ", false)", NONE, x -> x.setHoliday(k, false));
        }
        for (int many : new int[] {-1, count + 1, MIN, MAX}) {
            no("drop(" + many + ")", ILLEGAL, x -> x.drop(many));
        }
    }

    private static void refusedWhereFull(State state) {
        int room = 60 - state.count();
        if (room < 60) {
            no("addMany(5, one more than there is room for)", STATE, x -> x.addMany(5, room + 1));
            no("addMany(5, 60)", STATE, x -> x.addMany(5, 60));
            no("addMany(-10000, 60)", STATE, x -> x.addMany(-10000, 60));
        }
        if (room == 0) {
            no("add(5)", STATE, x -> x.add(5));
            no("add(-10000)", STATE, x -> x.add(-10000));
            no("add(10000)", STATE, x -> x.add(10000));
        }
    }

    private static void refusedSettings() {
        for (int length : new int[] {0, 13, -1, MIN, MAX}) {
            no("setSeason(" + length + ")", ILLEGAL, x -> x.setSeason(length));
        }
        for (int least : new int[] {0, 11, -1, MIN, MAX}) {
            no("setCuts(" + least + ", 0)", ILLEGAL, x -> x.setCuts(least, 0));
            no("setCuts(" + least + ", 77)", ILLEGAL, x -> x.setCuts(least, 77));
            no("setCuts(" + least + ", -1)", ILLEGAL, x -> x.setCuts(least, -1));
        }
        for (int penalty : new int[] {-1, 100001, MIN, MAX}) {
            no("setCuts(1, " + penalty + ")", ILLEGAL, x -> x.setCuts(1, penalty));
            no("setCuts(5, " + penalty + ")", ILLEGAL, x -> x.setCuts(5, penalty));
            no("setCuts(10, " + penalty + ")", ILLEGAL, x -> x.setCuts(10, penalty));
        }
        for (int factor : new int[] {99, 2001, 0, -1, MIN, MAX}) {
            no("setBound(" + factor + ", 0)", ILLEGAL, x -> x.setBound(factor, 0));
            no("setBound(" + factor + ", 999)", ILLEGAL, x -> x.setBound(factor, 999));
            no("setBound(" + factor + ", -1)", ILLEGAL, x -> x.setBound(factor, -1));
        }
        for (int floor : new int[] {-1, 1001, MIN, MAX}) {
            no("setBound(100, " + floor + ")", ILLEGAL, x -> x.setBound(100, floor));
            no("setBound(1234, " + floor + ")", ILLEGAL, x -> x.setBound(1234, floor));
            no("setBound(2000, " + floor + ")", ILLEGAL, x -> x.setBound(2000, floor));
        }
    }

    private static void refusedQuestions(State state) {
        int count = state.count();
        for (int k : new int[] {-1, count, MIN, MAX}) {
            no("value(" + k + ")", NONE, x -> x.value(k));
            no("adjusted(" + k + ")", NONE, x -> x.adjusted(k));
            no("residual(" + k + ")", NONE, x -> x.residual(k));
            no("verdict(" + k + ")", NONE, x -> x.verdict(k));
        }
        for (int phase : new int[] {-1, state.length(), MIN, MAX}) {
            no("season(" + phase + ")", NONE, x -> x.season(phase));
        }
        for (int segment : new int[] {-1, state.segments(), MIN, MAX}) {
            no("startOf(" + segment + ")", NONE, x -> x.startOf(segment));
            no("levelOf(" + segment + ")", NONE, x -> x.levelOf(segment));
        }
        for (int cut : new int[] {0, -1, count, count + 1, MIN, MAX}) {
            no("costCutAt(" + cut + ")", NONE, x -> x.costCutAt(cut));
        }
        for (int cut = 1; cut < count; cut++) {
            int at = cut;
            if (cut < state.least() || cut > count - state.least()) {
                no("costCutAt(" + cut + ")", ILLEGAL, x -> x.costCutAt(at));
            }
        }
        if (count > 14) {
            no("leastCost()", STATE, SeriesWatcher::leastCost);
        }
    }
}
