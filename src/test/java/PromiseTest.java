import java.util.function.Supplier;

/** For each promise of the document: ordinary calls, the edges it names, and wrong calls. */
public final class PromiseTest {
    private static final String ILLEGAL = "throws IllegalArgumentException";
    private static final String NONE = "throws IndexOutOfBoundsException";
    private static final String STATE = "throws IllegalStateException";
    private static final int MIN = Integer.MIN_VALUE;
    private static final int MAX = Integer.MAX_VALUE;

    private static int promise = 0;

    public static void main(String[] args) {
        promise1NewObject();
        promise2Add();
        promise3AddMany();
        promise4Correct();
        promise5SetHoliday();
        promise6Drop();
        promise7SetSeason();
        promise8SetCuts();
        promise9SetBound();
        promise10Size();
        promise11Value();
        promise12Base();
        promise13Season();
        promise14Adjusted();
        promise15Segments();
        promise16StartOf();
        promise17LevelOf();
        promise18Cost();
        promise19CostUncut();
        promise20CostCutAt();
        promise21LeastCost();
        promise22Residual();
        promise23Deviation();
        promise24Bound();
        promise25Verdict();
        promise26Anomalies();
        promise27Expected();
        promise28Judge();
        Checks.end("PromiseTest");
    }

    private static void due(String call, Object due, Supplier<Object> made) {
        Checks.same("promise " + promise + ": " + call, Checks.outcome(made), due);
    }

    /**
     * A wrong call throws, and leaves every answer as it was. It takes some 80 calls, so that one object
     * has room for six of them: nothing is promised of an object after its 512th call.
     */
    private static void wrong(String call, String due, SeriesWatcher x, Supplier<Object> made) {
        String before = portrait(x);
        due(call, due, made);
        Checks.same("promise " + promise + ": after " + call, portrait(x), before);
    }

    private static Object done(Runnable call) {
        call.run();
        return "done";
    }

    private static SeriesWatcher of(int... values) {
        SeriesWatcher x = new SeriesWatcher();
        for (int value : values) {
            x.add(value);
        }
        return x;
    }

    private static String portrait(SeriesWatcher x) {
        StringBuilder told = new StringBuilder();
        told.append(x.size()).append(' ').append(x.base()).append(' ').append(x.segments()).append(' ')
                .append(x.cost()).append(' ').append(x.costUncut()).append(' ').append(x.deviation()).append(' ')
                .append(x.bound()).append(' ').append(x.anomalies()).append(' ').append(x.expected());
        for (int k = 0; k < 5; k++) {
            int i = k;
            told.append(' ').append(Checks.outcome(() -> x.value(i))).append(' ')
                    .append(Checks.outcome(() -> x.residual(i))).append(' ')
                    .append(Checks.outcome(() -> x.verdict(i))).append(' ')
                    .append(Checks.outcome(() -> x.season(i))).append(' ')
                    .append(Checks.outcome(() -> x.startOf(i))).append(' ')
                    .append(Checks.outcome(() -> x.costCutAt(i)));
        }
        return told.toString();
    }

    private static void promise1NewObject() {
        promise = 1;
        SeriesWatcher x = new SeriesWatcher();
        due("size()", 0, x::size);
        due("segments()", 0, x::segments);
        due("setSeason(1): the length at first", 1, () -> x.setSeason(1));
        SeriesWatcher y = of(0, 0, 60, 60);
        due("segments(): the least length at first is 2, the penalty 100", 2, y::segments);
        due("cost()", 100, y::cost);
        SeriesWatcher least = of(0, 0, 0, 10000);
        due("costCutAt(3): least length 2 at first", ILLEGAL, () -> least.costCutAt(3));
        due("costCutAt(2): least length 2 at first", 10100, () -> least.costCutAt(2));
        due("bound(): the floor at first", 1, x::bound);
        due("bound(): the factor at first", 30000, of(-10000, 0, 10000)::bound);
        due("bound(): the factor at first, rounded down", 300, of(-100, 0, 100)::bound);
    }

    private static void promise2Add() {
        promise = 2;
        SeriesWatcher x = new SeriesWatcher();
        wrong("add(10001)", ILLEGAL, x, () -> x.add(10001));
        wrong("add(-10001)", ILLEGAL, x, () -> x.add(-10001));
        wrong("add(MIN)", ILLEGAL, x, () -> x.add(MIN));
        wrong("add(MAX)", ILLEGAL, x, () -> x.add(MAX));
        due("add(10000)", 0, () -> x.add(10000));
        due("add(-10000)", 1, () -> x.add(-10000));
        due("value(1)", -10000, () -> x.value(1));
        due("verdict(1): a working value", false, () -> x.verdict(1) == 3);
        x.addMany(0, 57);
        due("add(7), the 60th", 59, () -> x.add(7));
        wrong("add(7), the 61st", STATE, x, () -> x.add(7));
        wrong("add(10001), wrong in both ways", ILLEGAL, x, () -> x.add(10001));
        due("drop(1)", 59, () -> x.drop(1));
        due("add(7) again", 59, () -> x.add(7));
        SeriesWatcher y = of(1, 2, 3);
        y.setHoliday(2, true);
        y.drop(3);
        y.addMany(4, 2);
        y.add(5);
        due("setHoliday(2) of a new value where a holiday was", false, () -> y.setHoliday(2, false));
        due("base()", 4, y::base);
        SeriesWatcher asked = of(4);
        due("expected() before add", 4, asked::expected);
        asked.add(2);
        due("expected() after add", 2, asked::expected);
        due("base() after add", 2, asked::base);
    }

    private static void promise3AddMany() {
        promise = 3;
        SeriesWatcher x = new SeriesWatcher();
        wrong("addMany(10001, 1)", ILLEGAL, x, () -> x.addMany(10001, 1));
        wrong("addMany(-10001, 1)", ILLEGAL, x, () -> x.addMany(-10001, 1));
        wrong("addMany(0, 0)", ILLEGAL, x, () -> x.addMany(0, 0));
        wrong("addMany(0, 61)", ILLEGAL, x, () -> x.addMany(0, 61));
        wrong("addMany(0, MIN)", ILLEGAL, x, () -> x.addMany(0, MIN));
        wrong("addMany(0, MAX)", ILLEGAL, x, () -> x.addMany(0, MAX));
        SeriesWatcher more = new SeriesWatcher();
        due("addMany(-10000, 1)", 1, () -> more.addMany(-10000, 1));
        due("addMany(10000, 3)", 4, () -> more.addMany(10000, 3));
        due("value(0)", -10000, () -> more.value(0));
        due("value(1)", 10000, () -> more.value(1));
        due("value(3)", 10000, () -> more.value(3));
        wrong("addMany(0, 57), one too many", STATE, more, () -> more.addMany(0, 57));
        wrong("addMany(0, 61), wrong in both ways", ILLEGAL, more, () -> more.addMany(0, 61));
        wrong("addMany(10001, 60), wrong in both ways", ILLEGAL, more, () -> more.addMany(10001, 60));
        due("addMany(0, 56), the last ones", 60, () -> more.addMany(0, 56));
        SeriesWatcher y = new SeriesWatcher();
        due("addMany(5, 60)", 60, () -> y.addMany(5, 60));
        due("anomalies()", 0, y::anomalies);
        wrong("addMany(5, 1)", STATE, y, () -> y.addMany(5, 1));
        due("verdict(59): a working value", 0, () -> y.verdict(59));
        SeriesWatcher asked = of(4);
        due("expected() before addMany", 4, asked::expected);
        asked.addMany(2, 2);
        due("expected() after addMany", 2, asked::expected);
    }

    private static void promise4Correct() {
        promise = 4;
        SeriesWatcher x = of(1, 2, 30);
        due("correct(1, -10000)", 2, () -> x.correct(1, -10000));
        due("correct(1, 10000)", -10000, () -> x.correct(1, 10000));
        due("base() with it", 30, x::base);
        due("correct(0, 40)", 1, () -> x.correct(0, 40));
        due("base() with both", 40, x::base);
        wrong("correct(3, 0)", NONE, x, () -> x.correct(3, 0));
        wrong("correct(-1, 0)", NONE, x, () -> x.correct(-1, 0));
        wrong("correct(MIN, 0)", NONE, x, () -> x.correct(MIN, 0));
        wrong("correct(0, 10001)", ILLEGAL, x, () -> x.correct(0, 10001));
        wrong("correct(0, -10001)", ILLEGAL, x, () -> x.correct(0, -10001));
        wrong("correct(3, 10001), wrong in both ways", NONE, x, () -> x.correct(3, 10001));
        x.setHoliday(2, true);
        due("correct(2, 5) of a holiday", 30, () -> x.correct(2, 5));
        due("verdict(2), still a holiday", 3, () -> x.verdict(2));
        due("value(2)", 5, () -> x.value(2));
    }

    private static void promise5SetHoliday() {
        promise = 5;
        SeriesWatcher x = of(1, 2, 30);
        due("setHoliday(0, true)", false, () -> x.setHoliday(0, true));
        due("setHoliday(0, true) again", true, () -> x.setHoliday(0, true));
        due("base() without it", 2, x::base);
        due("setHoliday(1, false)", false, () -> x.setHoliday(1, false));
        due("setHoliday(0, false)", true, () -> x.setHoliday(0, false));
        due("setHoliday(0, false) again", false, () -> x.setHoliday(0, false));
        due("verdict(0)", false, () -> x.verdict(0) == 3);
        wrong("setHoliday(3, true)", NONE, x, () -> x.setHoliday(3, true));
        wrong("setHoliday(-1, true)", NONE, x, () -> x.setHoliday(-1, true));
        wrong("setHoliday(MAX, false)", NONE, x, () -> x.setHoliday(MAX, false));
    }

    private static void promise6Drop() {
        promise = 6;
        SeriesWatcher x = of(10, 20, 30, 40, 50);
        x.setHoliday(3, true);
        wrong("drop(-1)", ILLEGAL, x, () -> x.drop(-1));
        wrong("drop(6)", ILLEGAL, x, () -> x.drop(6));
        wrong("drop(MIN)", ILLEGAL, x, () -> x.drop(MIN));
        wrong("drop(MAX)", ILLEGAL, x, () -> x.drop(MAX));
        due("drop(0)", 5, () -> x.drop(0));
        due("value(0)", 10, () -> x.value(0));
        due("drop(2)", 3, () -> x.drop(2));
        due("value(0)", 30, () -> x.value(0));
        due("value(2)", 50, () -> x.value(2));
        due("value(3)", NONE, () -> x.value(3));
        due("verdict(1), the holiday moved along", 3, () -> x.verdict(1));
        due("setHoliday(2, false)", false, () -> x.setHoliday(2, false));
        due("base()", 30, x::base);
        due("drop(3), all of them", 0, () -> x.drop(3));
        due("segments()", 0, x::segments);
        SeriesWatcher y = of(1, 9, 1, 9, 1);
        y.setSeason(2);
        due("season(0)", 0, () -> y.season(0));
        y.drop(1);
        due("season(0): phases are counted anew", 8, () -> y.season(0));
        due("season(1)", 0, () -> y.season(1));
    }

    private static void promise7SetSeason() {
        promise = 7;
        SeriesWatcher x = of(1, 9, 1, 9);
        due("setSeason(12)", 1, () -> x.setSeason(12));
        due("setSeason(2)", 12, () -> x.setSeason(2));
        due("adjusted(1)", 1, () -> x.adjusted(1));
        wrong("setSeason(0)", ILLEGAL, x, () -> x.setSeason(0));
        wrong("setSeason(13)", ILLEGAL, x, () -> x.setSeason(13));
        wrong("setSeason(-1)", ILLEGAL, x, () -> x.setSeason(-1));
        wrong("setSeason(MIN)", ILLEGAL, x, () -> x.setSeason(MIN));
        wrong("setSeason(MAX)", ILLEGAL, x, () -> x.setSeason(MAX));
        due("setSeason(1)", 2, () -> x.setSeason(1));
        due("adjusted(1)", 9, () -> x.adjusted(1));
    }

    private static void promise8SetCuts() {
        promise = 8;
        SeriesWatcher x = of(1, 9, 1, 1);
        wrong("setCuts(0, 0)", ILLEGAL, x, () -> done(() -> x.setCuts(0, 0)));
        wrong("setCuts(11, 0)", ILLEGAL, x, () -> done(() -> x.setCuts(11, 0)));
        wrong("setCuts(1, -1)", ILLEGAL, x, () -> done(() -> x.setCuts(1, -1)));
        wrong("setCuts(1, 100001)", ILLEGAL, x, () -> done(() -> x.setCuts(1, 100001)));
        wrong("setCuts(MIN, MIN)", ILLEGAL, x, () -> done(() -> x.setCuts(MIN, MIN)));
        wrong("setCuts(MAX, MAX)", ILLEGAL, x, () -> done(() -> x.setCuts(MAX, MAX)));
        due("setCuts(1, 0)", "done", () -> done(() -> x.setCuts(1, 0)));
        due("segments()", 3, x::segments);
        due("setCuts(1, 100000)", "done", () -> done(() -> x.setCuts(1, 100000)));
        due("segments()", 1, x::segments);
        due("costCutAt(1)", 100008, () -> x.costCutAt(1));
        due("setCuts(10, 0)", "done", () -> done(() -> x.setCuts(10, 0)));
        x.addMany(1, 16);
        due("costCutAt(10)", 8, () -> x.costCutAt(10));
        due("costCutAt(9)", ILLEGAL, () -> x.costCutAt(9));
    }

    private static void promise9SetBound() {
        promise = 9;
        SeriesWatcher x = of(10, 13, 16);
        wrong("setBound(99, 0)", ILLEGAL, x, () -> done(() -> x.setBound(99, 0)));
        wrong("setBound(2001, 0)", ILLEGAL, x, () -> done(() -> x.setBound(2001, 0)));
        wrong("setBound(100, -1)", ILLEGAL, x, () -> done(() -> x.setBound(100, -1)));
        wrong("setBound(100, 1001)", ILLEGAL, x, () -> done(() -> x.setBound(100, 1001)));
        wrong("setBound(MIN, 0)", ILLEGAL, x, () -> done(() -> x.setBound(MIN, 0)));
        wrong("setBound(100, MAX)", ILLEGAL, x, () -> done(() -> x.setBound(100, MAX)));
        due("setBound(100, 0)", "done", () -> done(() -> x.setBound(100, 0)));
        due("bound()", 3, x::bound);
        due("setBound(2000, 0)", "done", () -> done(() -> x.setBound(2000, 0)));
        due("bound()", 60, x::bound);
        due("setBound(2000, 1000)", "done", () -> done(() -> x.setBound(2000, 1000)));
        due("bound()", 1000, x::bound);
    }

    private static void promise10Size() {
        promise = 10;
        SeriesWatcher x = of(1, 2, 3);
        due("size()", 3, x::size);
        x.setHoliday(1, true);
        due("size() with a holiday", 3, x::size);
        x.addMany(1, 57);
        due("size()", 60, x::size);
        x.drop(59);
        due("size()", 1, x::size);
    }

    private static void promise11Value() {
        promise = 11;
        SeriesWatcher x = of(5, -6, 7);
        due("value(0)", 5, () -> x.value(0));
        due("value(1)", -6, () -> x.value(1));
        due("value(2)", 7, () -> x.value(2));
        wrong("value(3)", NONE, x, () -> x.value(3));
        wrong("value(-1)", NONE, x, () -> x.value(-1));
        wrong("value(MAX)", NONE, x, () -> x.value(MAX));
        x.drop(1);
        due("value(2) after drop(1)", NONE, () -> x.value(2));
        due("value(0) of nothing", NONE, () -> new SeriesWatcher().value(0));
    }

    private static void promise12Base() {
        promise = 12;
        due("base() of nothing", 0, new SeriesWatcher()::base);
        due("base() of one", -4, of(-4)::base);
        due("base() of three", 5, of(9, 1, 5)::base);
        due("base() of four: the lower middle", 5, of(9, 1, 7, 5)::base);
        due("base() of negative ones", -7, of(-7, -5)::base);
        SeriesWatcher x = of(9, 1, 7, 5);
        x.setHoliday(1, true);
        due("base() without a holiday", 7, x::base);
        x.addMany(0, 1);
        due("base()", 5, x::base);
        SeriesWatcher y = of(4);
        y.setHoliday(0, true);
        due("base() of holidays alone", 0, y::base);
    }

    private static void promise13Season() {
        promise = 13;
        SeriesWatcher x = of(10, 20, 60, 11, 21, 61, 15, 20, 200);
        due("season(0): length 1", 0, () -> x.season(0));
        due("season(1): length 1", NONE, () -> x.season(1));
        x.setSeason(3);
        due("season(0)", -9, () -> x.season(0));
        due("season(1)", 0, () -> x.season(1));
        due("season(2)", 41, () -> x.season(2));
        wrong("season(3)", NONE, x, () -> x.season(3));
        wrong("season(-1)", NONE, x, () -> x.season(-1));
        wrong("season(MIN)", NONE, x, () -> x.season(MIN));
        x.drop(1);
        x.setHoliday(7, true);
        due("season(1): the lower middle of two", 40, () -> x.season(1));
        x.setHoliday(1, true);
        x.setHoliday(4, true);
        due("season(1) of holidays alone", 0, () -> x.season(1));
        x.setSeason(12);
        due("season(8) without values", 0, () -> x.season(8));
        due("season(11) without values", 0, () -> x.season(11));
        due("season(12)", NONE, () -> x.season(12));
    }

    private static void promise14Adjusted() {
        promise = 14;
        SeriesWatcher x = of(1, 9, 1, 9, 1, 30);
        due("adjusted(5): length 1", 30, () -> x.adjusted(5));
        x.setSeason(2);
        due("adjusted(0)", 1, () -> x.adjusted(0));
        due("adjusted(5)", 22, () -> x.adjusted(5));
        x.setHoliday(5, true);
        due("adjusted(5) of a holiday", 22, () -> x.adjusted(5));
        wrong("adjusted(6)", NONE, x, () -> x.adjusted(6));
        wrong("adjusted(-1)", NONE, x, () -> x.adjusted(-1));
        due("adjusted(0) of nothing", NONE, () -> new SeriesWatcher().adjusted(0));
    }

    private static void promise15Segments() {
        promise = 15;
        due("segments() of nothing", 0, new SeriesWatcher()::segments);
        due("segments() of fewer than the least length", 1, of(9)::segments);
        SeriesWatcher x = of(0, 0, 0, 50, 50, 50, 0, 0, 0);
        due("segments()", 1, x::segments);
        x.setCuts(2, 49);
        due("segments(): cuts are cheaper by one each", 3, x::segments);
        x.setCuts(2, 75);
        due("segments(): as cheap without cuts, fewer are taken", 1, x::segments);
        x.setCuts(3, 0);
        due("segments(): of three values each", 3, x::segments);
        x.setCuts(4, 0);
        due("segments(): of four values each, no cut saves anything", 1, x::segments);
        x.setCuts(1, 0);
        due("segments(): free cuts that save nothing are not made", 3, x::segments);
        SeriesWatcher z = of(0, 0, 0, 0, 50, 50, 50, 50);
        z.setCuts(4, 0);
        due("segments(): two of four values each", 2, z::segments);
        z.setCuts(5, 0);
        due("segments(): no two of five values each", 1, z::segments);
        SeriesWatcher y = of(0, 0, 70, 70);
        y.setHoliday(0, true);
        y.setHoliday(3, true);
        y.setCuts(2, 5);
        due("segments(): a holiday counts for the least length", 2, y::segments);
    }

    private static void promise16StartOf() {
        promise = 16;
        SeriesWatcher x = of(0, 0, 0, 50, 50, 50, 0, 0);
        x.setCuts(2, 10);
        due("startOf(0)", 0, () -> x.startOf(0));
        due("startOf(1)", 3, () -> x.startOf(1));
        due("startOf(2)", 6, () -> x.startOf(2));
        wrong("startOf(3)", NONE, x, () -> x.startOf(3));
        wrong("startOf(-1)", NONE, x, () -> x.startOf(-1));
        wrong("startOf(MAX)", NONE, x, () -> x.startOf(MAX));
        due("startOf(0) of nothing", NONE, () -> new SeriesWatcher().startOf(0));
        SeriesWatcher y = of(0, 0, 5, 10, 10);
        y.setCuts(2, 1);
        due("startOf(1): of equals the lower cut", 2, () -> y.startOf(1));
        SeriesWatcher z = of(0, 5, 10, 10, 15, 20);
        z.setCuts(2, 1);
        due("cost()", 12, z::cost);
        due("startOf(1): compared by the first cut", 2, () -> z.startOf(1));
        due("startOf(2): and by the second", 4, () -> z.startOf(2));
    }

    private static void promise17LevelOf() {
        promise = 17;
        SeriesWatcher x = of(1, 2, 3, 4, 90, 92, 95);
        x.setCuts(3, 20);
        due("levelOf(0): the lower middle", 2, () -> x.levelOf(0));
        due("levelOf(1)", 92, () -> x.levelOf(1));
        x.setHoliday(0, true);
        x.setHoliday(6, true);
        due("levelOf(0) without a holiday", 3, () -> x.levelOf(0));
        due("levelOf(1) without a holiday", 90, () -> x.levelOf(1));
        wrong("levelOf(2)", NONE, x, () -> x.levelOf(2));
        wrong("levelOf(-1)", NONE, x, () -> x.levelOf(-1));
        due("levelOf(0) of nothing", NONE, () -> new SeriesWatcher().levelOf(0));
        SeriesWatcher y = of(1, 9, 1, 9);
        y.setSeason(2);
        due("levelOf(0) of adjusted values", 1, () -> y.levelOf(0));
        SeriesWatcher z = of(4, 4);
        z.setHoliday(0, true);
        z.setHoliday(1, true);
        due("levelOf(0) of holidays alone", 0, () -> z.levelOf(0));
    }

    private static void promise18Cost() {
        promise = 18;
        due("cost() of nothing", 0, new SeriesWatcher()::cost);
        due("cost() of one", 0, of(77)::cost);
        SeriesWatcher x = of(1, 2, 3, 4, 90, 92, 95);
        x.setCuts(3, 20);
        due("cost(): 4 and 5 and the penalty", 29, x::cost);
        x.setHoliday(6, true);
        due("cost() without a holiday", 26, x::cost);
        x.setHoliday(6, false);
        x.setCuts(3, 0);
        due("cost() without a penalty", 9, x::cost);
        x.setCuts(4, 0);
        due("cost(): no second segment of four", 271, x::cost);
        SeriesWatcher y = of(-10000, -10000, 10000, 10000);
        y.setCuts(1, 100000);
        due("cost(): the farthest values", 40000, y::cost);
        SeriesWatcher z = new SeriesWatcher();
        z.addMany(-10000, 30);
        z.addMany(10000, 30);
        z.setCuts(10, 100000);
        due("cost() of 60 values", 100000, z::cost);
        due("costUncut() of 60 values", 600000, z::costUncut);
    }

    private static void promise19CostUncut() {
        promise = 19;
        due("costUncut() of nothing", 0, new SeriesWatcher()::costUncut);
        SeriesWatcher x = of(1, 2, 3, 4, 90, 92, 95);
        due("costUncut()", 271, x::costUncut);
        x.setCuts(1, 0);
        due("costUncut() while cuts are free", 271, x::costUncut);
        x.setHoliday(6, true);
        due("costUncut() without a holiday", 180, x::costUncut);
        SeriesWatcher y = of(1, 9, 1, 30);
        y.setSeason(2);
        due("costUncut() of adjusted values", 21, y::costUncut);
        y.setCuts(10, 0);
        due("costUncut() of fewer than the least length", 21, y::costUncut);
    }

    private static void promise20CostCutAt() {
        promise = 20;
        SeriesWatcher x = of(1, 2, 3, 4, 90, 92, 95);
        due("costCutAt(4)", 109, () -> x.costCutAt(4));
        due("costCutAt(3)", 195, () -> x.costCutAt(3));
        due("costCutAt(2)", 281, () -> x.costCutAt(2));
        wrong("costCutAt(0)", NONE, x, () -> x.costCutAt(0));
        wrong("costCutAt(7)", NONE, x, () -> x.costCutAt(7));
        wrong("costCutAt(-1)", NONE, x, () -> x.costCutAt(-1));
        wrong("costCutAt(MIN)", NONE, x, () -> x.costCutAt(MIN));
        wrong("costCutAt(MAX)", NONE, x, () -> x.costCutAt(MAX));
        SeriesWatcher again = of(1, 2, 3, 4, 90, 92, 95);
        wrong("costCutAt(1)", ILLEGAL, again, () -> again.costCutAt(1));
        wrong("costCutAt(6)", ILLEGAL, again, () -> again.costCutAt(6));
        again.setCuts(1, 7);
        due("costCutAt(6)", 187, () -> again.costCutAt(6));
        due("costCutAt(1)", 275, () -> again.costCutAt(1));
        due("costCutAt(1) of one value", NONE, () -> of(5).costCutAt(1));
        due("costCutAt(1) of two values", ILLEGAL, () -> of(5, 5).costCutAt(1));
        due("costCutAt(0) of nothing", NONE, () -> new SeriesWatcher().costCutAt(0));
    }

    private static void promise21LeastCost() {
        promise = 21;
        due("leastCost() of nothing", 0, new SeriesWatcher()::leastCost);
        due("leastCost() of fewer than the least length", 0, of(5)::leastCost);
        SeriesWatcher x = of(1, 2, 3, 4, 90, 92, 95);
        x.setCuts(3, 20);
        due("leastCost()", 29, x::leastCost);
        x.setCuts(8, 0);
        due("leastCost() of fewer than the least length", 271, x::leastCost);
        x.setCuts(1, 0);
        due("leastCost() of single values", 0, x::leastCost);
        x.addMany(95, 7);
        due("leastCost() of 14 values", 0, x::leastCost);
        x.setCuts(1, 1);
        due("leastCost() of 14 values", x.cost(), x::leastCost);
        x.add(95);
        wrong("leastCost() of 15 values", STATE, x, x::leastCost);
        x.drop(1);
        due("leastCost() of 14 values again", x.cost(), x::leastCost);
        x.addMany(1, 46);
        wrong("leastCost() of 60 values", STATE, x, x::leastCost);
    }

    private static void promise22Residual() {
        promise = 22;
        SeriesWatcher x = of(1, 2, 3, 4, 90, 92, 95);
        x.setCuts(3, 20);
        due("residual(0)", -1, () -> x.residual(0));
        due("residual(3): the first segment's last", 2, () -> x.residual(3));
        due("residual(4): the second segment's first", -2, () -> x.residual(4));
        due("residual(6)", 3, () -> x.residual(6));
        x.setHoliday(6, true);
        due("residual(6) of a holiday", 5, () -> x.residual(6));
        wrong("residual(7)", NONE, x, () -> x.residual(7));
        wrong("residual(-1)", NONE, x, () -> x.residual(-1));
        due("residual(0) of nothing", NONE, () -> new SeriesWatcher().residual(0));
        SeriesWatcher y = of(1, 9, 1, 30);
        y.setSeason(2);
        due("residual(3) of an adjusted value", 21, () -> y.residual(3));
    }

    private static void promise23Deviation() {
        promise = 23;
        due("deviation() of nothing", 0, new SeriesWatcher()::deviation);
        SeriesWatcher x = of(1, 2, 3, 4, 90, 92, 95);
        x.setCuts(3, 20);
        due("deviation(): of 1 0 1 2 2 0 3", 1, x::deviation);
        SeriesWatcher y = of(0, 10, 30, 60);
        due("deviation(): of 10 0 20 50, the lower middle", 10, y::deviation);
        y.setHoliday(1, true);
        due("deviation(): of 30 0 30 without a holiday", 30, y::deviation);
        SeriesWatcher z = of(5, 8);
        z.setHoliday(0, true);
        z.setHoliday(1, true);
        due("deviation() of holidays alone", 0, z::deviation);
        due("deviation(): signs do not count", 10, of(0, 10, 20, 30, -10)::deviation);
    }

    private static void promise24Bound() {
        promise = 24;
        due("bound() of nothing: the floor", 1, new SeriesWatcher()::bound);
        SeriesWatcher x = of(10, 13, 16);
        due("bound()", 9, x::bound);
        x.setBound(150, 0);
        due("bound(): 4.5 rounded down", 4, x::bound);
        x.setBound(199, 0);
        due("bound(): 5.97 rounded down", 5, x::bound);
        x.setBound(199, 5);
        due("bound(): the floor is as high", 5, x::bound);
        x.setBound(199, 6);
        due("bound(): the floor is higher", 6, x::bound);
        SeriesWatcher y = of(5, 5, 5);
        y.setBound(2000, 0);
        due("bound(): a floor of 0", 0, y::bound);
        SeriesWatcher z = of(-10000, 0, 10000);
        z.setBound(2000, 1000);
        due("bound(): a great one", 200000, z::bound);
    }

    private static void promise25Verdict() {
        promise = 25;
        SeriesWatcher x = of(10, 11, 12, 14, 15, 8, 7, 11, 10, 11, 12);
        x.setBound(300, 3);
        due("deviation()", 1, x::deviation);
        due("verdict(0)", 0, () -> x.verdict(0));
        due("verdict(3): at the bound", 0, () -> x.verdict(3));
        due("verdict(4): above it", 1, () -> x.verdict(4));
        due("verdict(5): at the bound below", 0, () -> x.verdict(5));
        due("verdict(6): below it", 2, () -> x.verdict(6));
        x.setHoliday(4, true);
        due("verdict(4): a holiday", 3, () -> x.verdict(4));
        x.setHoliday(4, false);
        due("verdict(4): no more", 1, () -> x.verdict(4));
        wrong("verdict(11)", NONE, x, () -> x.verdict(11));
        wrong("verdict(-1)", NONE, x, () -> x.verdict(-1));
        due("verdict(0) of nothing", NONE, () -> new SeriesWatcher().verdict(0));
    }

    private static void promise26Anomalies() {
        promise = 26;
        due("anomalies() of nothing", 0, new SeriesWatcher()::anomalies);
        SeriesWatcher x = of(10, 11, 12, 14, 15, 8, 7, 11, 10, 11, 12);
        due("anomalies(): one too high, one too low", 2, x::anomalies);
        x.setHoliday(4, true);
        due("anomalies() without a holiday", 1, x::anomalies);
        x.setBound(100, 0);
        due("anomalies() beyond 1", 3, x::anomalies);
        x.setBound(100, 1000);
        due("anomalies() beyond 1000", 0, x::anomalies);
        SeriesWatcher unasked = of(90, 10, 10, 10, -90);
        due("anomalies(), asked first: the first and the last value", 2, unasked::anomalies);
        unasked.correct(4, 10);
        due("anomalies(), asked first after a change", 1, unasked::anomalies);
    }

    private static void promise27Expected() {
        promise = 27;
        due("expected() of nothing", 0, new SeriesWatcher()::expected);
        SeriesWatcher x = of(1, 2, 3, 4, 90, 92, 95);
        x.setCuts(3, 20);
        due("expected(): the last level", 92, x::expected);
        SeriesWatcher y = of(10, 20, 60, 11, 21, 61, 10, 20);
        y.setSeason(3);
        due("expected(): phase 2", 60, y::expected);
        y.add(60);
        due("expected(): phase 0", 10, y::expected);
        y.drop(9);
        due("expected() after all are dropped", 0, y::expected);
        SeriesWatcher z = of(-5, -7);
        z.setHoliday(1, true);
        due("expected()", -5, z::expected);
    }

    private static void promise28Judge() {
        promise = 28;
        SeriesWatcher x = of(10, 13, 16);
        due("judge(22): at the bound", 0, () -> x.judge(22));
        due("judge(23): above it", 1, () -> x.judge(23));
        due("judge(4): at the bound below", 0, () -> x.judge(4));
        due("judge(3): below it", 2, () -> x.judge(3));
        due("judge(MAX)", 1, () -> x.judge(MAX));
        due("judge(MIN)", 2, () -> x.judge(MIN));
        due("size(): a judged value is not added", 3, x::size);
        SeriesWatcher low = of(-10000, -10000);
        due("judge(MAX) of low ones", 1, () -> low.judge(MAX));
        due("judge(MIN) of low ones", 2, () -> low.judge(MIN));
        SeriesWatcher y = of(1, 9, 1, 9, 1);
        y.setSeason(2);
        due("judge(9): by the season of the next", 0, () -> y.judge(9));
        due("judge(1)", 2, () -> y.judge(1));
        due("judge(11)", 1, () -> y.judge(11));
        due("judge(0) of nothing", 0, () -> new SeriesWatcher().judge(0));
        due("judge(2) of nothing", 1, () -> new SeriesWatcher().judge(2));
        due("judge(-2) of nothing", 2, () -> new SeriesWatcher().judge(-2));
    }
}
