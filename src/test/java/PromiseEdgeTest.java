import java.util.function.Supplier;

/**
 * For each promise the boundaries of its own that the document names: the last argument that is accepted
 * on each side and the first that is refused, a series without values, with one and with 60, and what
 * holds at a call just after a change that nothing was asked of. The answers that are due are worked out
 * by hand.
 */
public final class PromiseEdgeTest {
    private static final String ILLEGAL = "throws IllegalArgumentException";
    private static final String NONE = "throws IndexOutOfBoundsException";
    private static final String STATE = "throws IllegalStateException";
    private static final int MIN = Integer.MIN_VALUE;
    private static final int MAX = Integer.MAX_VALUE;

    private static String sentence = "";

    public static void main(String[] args) {
        aSeriesWithoutValues();
        addFromLowestToHighest();
        addTheLastOne();
        addIsAWorkingValue();
        addManyFromLowestToHighest();
        addManyTimes1To60();
        addManyTheLastOnes();
        addManyNamesTheArgumentFirst();
        correctFirstAndLast();
        correctNamesTheNumberFirst();
        correctAHoliday();
        setHolidayFirstAndLast();
        dropFrom0ToAll();
        dropNumbersFrom0();
        dropThenFill();
        setSeasonFrom1To12();
        setCutsFromLeastToMost();
        setCutsBothOrNone();
        setBoundFromLowestToHighest();
        setBoundBothOrNone();
        sizeFrom0To60();
        valueFirstAndLast();
        baseOfAWhole();
        seasonFirstAndLast();
        adjustedFirstAndLast();
        segmentsFrom0To60();
        startOfFirstAndLast();
        levelOfFirstAndLast();
        costAsked();
        costUncutAsked();
        costCutAtFirstAndLast();
        costCutAtExactlyTheLeastLength();
        costCutAtNamesTheCutFirst();
        leastCostOf14And15();
        leastCostIsTheCost();
        residualFirstAndLast();
        deviationAsked();
        boundAsked();
        verdictFirstAndLast();
        anomaliesFirstAndLast();
        expectedOfTheNext();
        judgeAnyNumber();
        judgeHoweverGreat();
        judgeAskedFirst();
        Checks.end("PromiseEdgeTest");
    }

    private static void due(String call, Object due, Supplier<Object> made) {
        Checks.same(sentence + ": " + call, Checks.outcome(made), due);
    }

    private static Object done(Runnable call) {
        call.run();
        return "done";
    }

    private static void aSeriesWithoutValues() {
        sentence = "1, a series without values";
        SeriesWatcher x = new SeriesWatcher();
        due("size()", 0, x::size);
        due("value(0)", NONE, () -> x.value(0));
        due("adjusted(0)", NONE, () -> x.adjusted(0));
        due("residual(0)", NONE, () -> x.residual(0));
        due("verdict(0)", NONE, () -> x.verdict(0));
        due("startOf(0)", NONE, () -> x.startOf(0));
        due("levelOf(0)", NONE, () -> x.levelOf(0));
        due("correct(0, 0)", NONE, () -> x.correct(0, 0));
        due("setHoliday(0, true)", NONE, () -> x.setHoliday(0, true));
        due("setHoliday(0, false)", NONE, () -> x.setHoliday(0, false));
        due("drop(1)", ILLEGAL, () -> x.drop(1));
        due("drop(0)", 0, () -> x.drop(0));
        due("base()", 0, x::base);
        due("season(0)", 0, () -> x.season(0));
        due("segments()", 0, x::segments);
        due("cost()", 0, x::cost);
        due("costUncut()", 0, x::costUncut);
        due("leastCost()", 0, x::leastCost);
        due("deviation()", 0, x::deviation);
        due("bound()", 1, x::bound);
        due("anomalies()", 0, x::anomalies);
        due("expected()", 0, x::expected);
    }

    private static void addFromLowestToHighest() {
        sentence = "2, value: -10000 to 10000";
        SeriesWatcher x = new SeriesWatcher();
        due("add(-10001)", ILLEGAL, () -> x.add(-10001));
        due("add(-10000)", 0, () -> x.add(-10000));
        due("add(10000)", 1, () -> x.add(10000));
        due("add(10001)", ILLEGAL, () -> x.add(10001));
        due("add(MIN)", ILLEGAL, () -> x.add(MIN));
        due("add(MAX)", ILLEGAL, () -> x.add(MAX));
        due("value(0)", -10000, () -> x.value(0));
        due("value(1)", 10000, () -> x.value(1));
        due("size()", 2, x::size);
    }

    private static void addTheLastOne() {
        sentence = "2, throws IllegalStateException if there are 60 values";
        SeriesWatcher x = Watchers.runs(0, 59);
        due("add(-10000), the 60th", 59, () -> x.add(-10000));
        due("add(10000), the 61st", STATE, () -> x.add(10000));
        due("add(-10001), both exceptions apply", ILLEGAL, () -> x.add(-10001));
        due("add(10001), both exceptions apply", ILLEGAL, () -> x.add(10001));
        due("size()", 60, x::size);
        due("value(59)", -10000, () -> x.value(59));
    }

    private static void addIsAWorkingValue() {
        sentence = "2, adds a working value: where a holiday was dropped";
        SeriesWatcher x = Watchers.holidays(Watchers.runs(3, 60), 0, 60);
        x.drop(60);
        due("add(5)", 0, () -> x.add(5));
        due("base()", 5, x::base);
        due("verdict(0)", 0, () -> x.verdict(0));
        due("addMany(7, 59)", 60, () -> x.addMany(7, 59));
        due("base()", 7, x::base);
        due("verdict(59)", 0, () -> x.verdict(59));
        due("setHoliday(59, false)", false, () -> x.setHoliday(59, false));
    }

    private static void addManyFromLowestToHighest() {
        sentence = "3, value: -10000 to 10000";
        SeriesWatcher x = new SeriesWatcher();
        due("addMany(-10001, 1)", ILLEGAL, () -> x.addMany(-10001, 1));
        due("addMany(-10000, 1)", 1, () -> x.addMany(-10000, 1));
        due("addMany(10000, 1)", 2, () -> x.addMany(10000, 1));
        due("addMany(10001, 1)", ILLEGAL, () -> x.addMany(10001, 1));
        due("addMany(MIN, 1)", ILLEGAL, () -> x.addMany(MIN, 1));
        due("addMany(MAX, 1)", ILLEGAL, () -> x.addMany(MAX, 1));
        due("size()", 2, x::size);
        due("value(0)", -10000, () -> x.value(0));
        due("value(1)", 10000, () -> x.value(1));
    }

    private static void addManyTimes1To60() {
        sentence = "3, times: 1 to 60";
        SeriesWatcher x = new SeriesWatcher();
        due("addMany(4, 0)", ILLEGAL, () -> x.addMany(4, 0));
        due("addMany(4, -1)", ILLEGAL, () -> x.addMany(4, -1));
        due("addMany(4, 61)", ILLEGAL, () -> x.addMany(4, 61));
        due("addMany(4, MIN)", ILLEGAL, () -> x.addMany(4, MIN));
        due("addMany(4, MAX)", ILLEGAL, () -> x.addMany(4, MAX));
        due("size()", 0, x::size);
        due("addMany(4, 60)", 60, () -> x.addMany(4, 60));
        due("value(59)", 4, () -> x.value(59));
        SeriesWatcher one = new SeriesWatcher();
        due("addMany(4, 1)", 1, () -> one.addMany(4, 1));
        due("value(1)", NONE, () -> one.value(1));
    }

    private static void addManyTheLastOnes() {
        sentence = "3, throws IllegalStateException if there would be more than 60 values";
        SeriesWatcher x = Watchers.runs(1, 58);
        due("addMany(2, 3), 61", STATE, () -> x.addMany(2, 3));
        due("size()", 58, x::size);
        due("addMany(2, 2), 60", 60, () -> x.addMany(2, 2));
        due("addMany(2, 1), 61", STATE, () -> x.addMany(2, 1));
        due("addMany(2, 60), 120", STATE, () -> x.addMany(2, 60));
        due("value(57)", 1, () -> x.value(57));
        due("value(58)", 2, () -> x.value(58));
        SeriesWatcher one = Watchers.of(1);
        due("addMany(2, 60), 61", STATE, () -> one.addMany(2, 60));
        due("addMany(2, 59), 60", 60, () -> one.addMany(2, 59));
    }

    private static void addManyNamesTheArgumentFirst() {
        sentence = "3, the exception that is named first";
        SeriesWatcher x = Watchers.runs(1, 60);
        due("addMany(10001, 1)", ILLEGAL, () -> x.addMany(10001, 1));
        due("addMany(-10001, 60)", ILLEGAL, () -> x.addMany(-10001, 60));
        due("addMany(0, 0)", ILLEGAL, () -> x.addMany(0, 0));
        due("addMany(0, 61)", ILLEGAL, () -> x.addMany(0, 61));
        due("addMany(0, MAX)", ILLEGAL, () -> x.addMany(0, MAX));
        due("addMany(0, 1)", STATE, () -> x.addMany(0, 1));
    }

    private static void correctFirstAndLast() {
        sentence = "4, k: its number, value: -10000 to 10000";
        SeriesWatcher x = Watchers.runs(1, 60);
        due("correct(0, -10000)", 1, () -> x.correct(0, -10000));
        due("correct(59, 10000)", 1, () -> x.correct(59, 10000));
        due("correct(0, 10000)", -10000, () -> x.correct(0, 10000));
        due("correct(59, -10000)", 10000, () -> x.correct(59, -10000));
        due("correct(60, 0)", NONE, () -> x.correct(60, 0));
        due("correct(-1, 0)", NONE, () -> x.correct(-1, 0));
        due("correct(MIN, 0)", NONE, () -> x.correct(MIN, 0));
        due("correct(MAX, 0)", NONE, () -> x.correct(MAX, 0));
        due("correct(0, 10001)", ILLEGAL, () -> x.correct(0, 10001));
        due("correct(59, -10001)", ILLEGAL, () -> x.correct(59, -10001));
        due("correct(0, MIN)", ILLEGAL, () -> x.correct(0, MIN));
        due("correct(0, MAX)", ILLEGAL, () -> x.correct(0, MAX));
        due("value(0)", 10000, () -> x.value(0));
        due("value(59)", -10000, () -> x.value(59));
        due("value(1)", 1, () -> x.value(1));
        due("size()", 60, x::size);
    }

    private static void correctNamesTheNumberFirst() {
        sentence = "4, the exception that is named first";
        SeriesWatcher x = Watchers.of(1, 2);
        due("correct(2, 10001)", NONE, () -> x.correct(2, 10001));
        due("correct(-1, -10001)", NONE, () -> x.correct(-1, -10001));
        due("correct(0, 0) after all are dropped", NONE, () -> {
            x.drop(2);
            return x.correct(0, 0);
        });
        due("correct(0, MAX) after all are dropped", NONE, () -> x.correct(0, MAX));
    }

    private static void correctAHoliday() {
        sentence = "4, corrects a value: of a holiday, which stays one";
        SeriesWatcher x = Watchers.holidays(Watchers.of(1, 2, 3), 2, 3);
        due("correct(2, -50)", 3, () -> x.correct(2, -50));
        due("base()", 1, x::base);
        due("setHoliday(2, false)", true, () -> x.setHoliday(2, false));
        due("value(2)", -50, () -> x.value(2));
        due("correct(2, 50)", -50, () -> x.correct(2, 50));
        due("base()", 2, x::base);
    }

    private static void setHolidayFirstAndLast() {
        sentence = "5, k: its number";
        SeriesWatcher x = Watchers.runs(1, 60);
        due("setHoliday(0, true)", false, () -> x.setHoliday(0, true));
        due("setHoliday(59, true)", false, () -> x.setHoliday(59, true));
        due("setHoliday(60, true)", NONE, () -> x.setHoliday(60, true));
        due("setHoliday(-1, true)", NONE, () -> x.setHoliday(-1, true));
        due("setHoliday(MIN, false)", NONE, () -> x.setHoliday(MIN, false));
        due("setHoliday(MAX, false)", NONE, () -> x.setHoliday(MAX, false));
        due("verdict(0)", 3, () -> x.verdict(0));
        due("verdict(1)", 0, () -> x.verdict(1));
        due("verdict(58)", 0, () -> x.verdict(58));
        due("verdict(59)", 3, () -> x.verdict(59));
        due("setHoliday(0, true), as it is already", true, () -> x.setHoliday(0, true));
        due("setHoliday(59, false)", true, () -> x.setHoliday(59, false));
        due("setHoliday(59, false), as it is already", false, () -> x.setHoliday(59, false));
        due("verdict(0)", 3, () -> x.verdict(0));
        due("verdict(59)", 0, () -> x.verdict(59));
    }

    private static void dropFrom0ToAll() {
        sentence = "6, many: 0 to size()";
        SeriesWatcher x = Watchers.runs(1, 60);
        due("drop(-1)", ILLEGAL, () -> x.drop(-1));
        due("drop(61)", ILLEGAL, () -> x.drop(61));
        due("drop(MIN)", ILLEGAL, () -> x.drop(MIN));
        due("drop(MAX)", ILLEGAL, () -> x.drop(MAX));
        due("drop(0)", 60, () -> x.drop(0));
        due("drop(60)", 0, () -> x.drop(60));
        due("drop(0) of nothing", 0, () -> x.drop(0));
        due("drop(1) of nothing", ILLEGAL, () -> x.drop(1));
        SeriesWatcher three = Watchers.of(1, 2, 3);
        due("drop(4) of 3", ILLEGAL, () -> three.drop(4));
        due("drop(2) of 3", 1, () -> three.drop(2));
        due("drop(2) of 1", ILLEGAL, () -> three.drop(2));
        due("drop(1) of 1", 0, () -> three.drop(1));
    }

    private static void dropNumbersFrom0() {
        sentence = "6, drops the oldest values; the others are numbered from 0 on then";
        SeriesWatcher x = new SeriesWatcher();
        for (int k = 0; k < 60; k++) {
            x.add(k);
        }
        x.setHoliday(0, true);
        x.setHoliday(59, true);
        due("drop(59)", 1, () -> x.drop(59));
        due("value(0)", 59, () -> x.value(0));
        due("value(1)", NONE, () -> x.value(1));
        due("verdict(0), the holiday moved along", 3, () -> x.verdict(0));
        SeriesWatcher seasons = Watchers.season(Watchers.of(0, 10, 20, 0, 10, 20, 0), 3);
        due("season(0)", -10, () -> seasons.season(0));
        seasons.drop(1);
        due("season(0): what was phase 1", 0, () -> seasons.season(0));
        due("expected(): value 6 has phase 0", 10, seasons::expected);
        seasons.drop(3);
        due("season(0): a whole season fewer", 0, () -> seasons.season(0));
        due("expected(): value 3 has phase 0", 10, seasons::expected);
    }

    private static void dropThenFill() {
        sentence = "6, drops the oldest values: there is room for as many again";
        SeriesWatcher x = Watchers.holidays(Watchers.runs(1, 60), 0, 30);
        due("drop(30)", 30, () -> x.drop(30));
        due("base()", 1, x::base);
        due("addMany(2, 31)", STATE, () -> x.addMany(2, 31));
        due("addMany(2, 30)", 60, () -> x.addMany(2, 30));
        due("setHoliday(30, false) of a new value", false, () -> x.setHoliday(30, false));
        due("value(29)", 1, () -> x.value(29));
        due("value(30)", 2, () -> x.value(30));
    }

    private static void setSeasonFrom1To12() {
        sentence = "7, length: 1 to 12";
        SeriesWatcher x = Watchers.of(4, 7);
        due("setSeason(0)", ILLEGAL, () -> x.setSeason(0));
        due("setSeason(13)", ILLEGAL, () -> x.setSeason(13));
        due("setSeason(-1)", ILLEGAL, () -> x.setSeason(-1));
        due("setSeason(MIN)", ILLEGAL, () -> x.setSeason(MIN));
        due("setSeason(MAX)", ILLEGAL, () -> x.setSeason(MAX));
        due("setSeason(12), the length before", 1, () -> x.setSeason(12));
        due("adjusted(1), asked first", 4, () -> x.adjusted(1));
        due("setSeason(13)", ILLEGAL, () -> x.setSeason(13));
        due("setSeason(1), the length before", 12, () -> x.setSeason(1));
        due("adjusted(1)", 7, () -> x.adjusted(1));
        due("setSeason(1), as it is already", 1, () -> x.setSeason(1));
    }

    private static void setCutsFromLeastToMost() {
        sentence = "8, least: 1 to 10, penalty: 0 to 100000";
        SeriesWatcher x = Watchers.runs(0, 10, 3, 10);
        due("setCuts(1, 0)", "done", () -> done(() -> x.setCuts(1, 0)));
        due("costCutAt(1)", 27, () -> x.costCutAt(1));
        due("setCuts(1, 100000)", "done", () -> done(() -> x.setCuts(1, 100000)));
        due("costCutAt(19)", 100027, () -> x.costCutAt(19));
        due("setCuts(10, 0)", "done", () -> done(() -> x.setCuts(10, 0)));
        due("costCutAt(10)", 0, () -> x.costCutAt(10));
        due("costCutAt(9)", ILLEGAL, () -> x.costCutAt(9));
        due("setCuts(10, 100000)", "done", () -> done(() -> x.setCuts(10, 100000)));
        due("costCutAt(10)", 100000, () -> x.costCutAt(10));
        due("setCuts(0, 0)", ILLEGAL, () -> done(() -> x.setCuts(0, 0)));
        due("setCuts(11, 0)", ILLEGAL, () -> done(() -> x.setCuts(11, 0)));
        due("setCuts(1, -1)", ILLEGAL, () -> done(() -> x.setCuts(1, -1)));
        due("setCuts(1, 100001)", ILLEGAL, () -> done(() -> x.setCuts(1, 100001)));
        due("setCuts(MIN, 0)", ILLEGAL, () -> done(() -> x.setCuts(MIN, 0)));
        due("setCuts(MAX, 0)", ILLEGAL, () -> done(() -> x.setCuts(MAX, 0)));
        due("setCuts(1, MIN)", ILLEGAL, () -> done(() -> x.setCuts(1, MIN)));
        due("setCuts(1, MAX)", ILLEGAL, () -> done(() -> x.setCuts(1, MAX)));
        due("costCutAt(10) as before", 100000, () -> x.costCutAt(10));
        due("costCutAt(9) as before", ILLEGAL, () -> x.costCutAt(9));
    }

    private static void setCutsBothOrNone() {
        sentence = "8, a call that throws changes neither least nor penalty";
        SeriesWatcher x = Watchers.cuts(Watchers.of(0, 0, 30, 30), 2, 7);
        due("setCuts(1, 100001)", ILLEGAL, () -> done(() -> x.setCuts(1, 100001)));
        due("costCutAt(1): the least length as before", ILLEGAL, () -> x.costCutAt(1));
        due("setCuts(11, 50)", ILLEGAL, () -> done(() -> x.setCuts(11, 50)));
        due("costCutAt(2): the penalty as before", 7, () -> x.costCutAt(2));
        due("segments()", 2, x::segments);
    }

    private static void setBoundFromLowestToHighest() {
        sentence = "9, factor: 100 to 2000, floor: 0 to 1000";
        SeriesWatcher x = Watchers.of(0, 7, 14);
        due("setBound(100, 0)", "done", () -> done(() -> x.setBound(100, 0)));
        due("bound()", 7, x::bound);
        due("setBound(2000, 0)", "done", () -> done(() -> x.setBound(2000, 0)));
        due("bound()", 140, x::bound);
        due("setBound(100, 1000)", "done", () -> done(() -> x.setBound(100, 1000)));
        due("bound()", 1000, x::bound);
        due("setBound(2000, 139)", "done", () -> done(() -> x.setBound(2000, 139)));
        due("setBound(99, 0)", ILLEGAL, () -> done(() -> x.setBound(99, 0)));
        due("setBound(2001, 0)", ILLEGAL, () -> done(() -> x.setBound(2001, 0)));
        due("setBound(100, -1)", ILLEGAL, () -> done(() -> x.setBound(100, -1)));
        due("setBound(100, 1001)", ILLEGAL, () -> done(() -> x.setBound(100, 1001)));
        due("setBound(MIN, 0)", ILLEGAL, () -> done(() -> x.setBound(MIN, 0)));
        due("setBound(MAX, 0)", ILLEGAL, () -> done(() -> x.setBound(MAX, 0)));
        due("setBound(100, MIN)", ILLEGAL, () -> done(() -> x.setBound(100, MIN)));
        due("setBound(100, MAX)", ILLEGAL, () -> done(() -> x.setBound(100, MAX)));
        due("bound() as before", 140, x::bound);
    }

    private static void setBoundBothOrNone() {
        sentence = "9, a call that throws changes neither factor nor floor";
        SeriesWatcher x = Watchers.bound(Watchers.of(0, 7, 14), 200, 5);
        due("setBound(2000, 1001)", ILLEGAL, () -> done(() -> x.setBound(2000, 1001)));
        due("bound(): the factor as before", 14, x::bound);
        due("setBound(99, 1000)", ILLEGAL, () -> done(() -> x.setBound(99, 1000)));
        due("bound(): the floor as before", 14, x::bound);
    }

    private static void sizeFrom0To60() {
        sentence = "10, how many values there are";
        SeriesWatcher x = new SeriesWatcher();
        due("size() of nothing", 0, x::size);
        x.addMany(0, 60);
        due("size() of 60", 60, x::size);
        Watchers.holidays(x, 0, 60);
        due("size() of 60 holidays", 60, x::size);
        x.drop(60);
        due("size() after all are dropped", 0, x::size);
    }

    private static void valueFirstAndLast() {
        sentence = "11, throws IndexOutOfBoundsException if there is no such value";
        SeriesWatcher x = Watchers.runs(-10000, 1, 5, 58, 10000, 1);
        due("value(-1)", NONE, () -> x.value(-1));
        due("value(0)", -10000, () -> x.value(0));
        due("value(59)", 10000, () -> x.value(59));
        due("value(60)", NONE, () -> x.value(60));
        due("value(MIN)", NONE, () -> x.value(MIN));
        due("value(MAX)", NONE, () -> x.value(MAX));
        x.drop(1);
        due("value(59) after drop(1)", NONE, () -> x.value(59));
    }

    private static void baseOfAWhole() {
        sentence = "12, the base";
        SeriesWatcher x = Watchers.runs(-10000, 30, 10000, 30);
        due("base(): as many of each", -10000, x::base);
        x.setHoliday(0, true);
        due("base(): one of the low ones a holiday", 10000, x::base);
        x.setHoliday(59, true);
        due("base(): one of each a holiday", -10000, x::base);
    }

    private static void seasonFirstAndLast() {
        sentence = "13, phase: 0 to the length of the season less 1";
        SeriesWatcher x = new SeriesWatcher();
        due("season(0), length 1", 0, () -> x.season(0));
        due("season(1), length 1", NONE, () -> x.season(1));
        x.setSeason(12);
        due("season(11), length 12, no values", 0, () -> x.season(11));
        due("season(12), length 12, no values", NONE, () -> x.season(12));
        for (int k = 0; k < 60; k++) {
            x.add(k % 12 * 100);
        }
        due("season(-1)", NONE, () -> x.season(-1));
        due("season(0)", -500, () -> x.season(0));
        due("season(11)", 600, () -> x.season(11));
        due("season(12)", NONE, () -> x.season(12));
        due("season(MIN)", NONE, () -> x.season(MIN));
        due("season(MAX)", NONE, () -> x.season(MAX));
        x.setSeason(11);
        due("season(11), length 11", NONE, () -> x.season(11));
    }

    private static void adjustedFirstAndLast() {
        sentence = "14, an adjusted value, also of a holiday";
        SeriesWatcher x = new SeriesWatcher();
        x.setSeason(12);
        for (int k = 0; k < 60; k++) {
            x.add(k % 12 * 100);
        }
        due("adjusted(-1)", NONE, () -> x.adjusted(-1));
        due("adjusted(0)", 500, () -> x.adjusted(0));
        due("adjusted(59)", 500, () -> x.adjusted(59));
        due("adjusted(60)", NONE, () -> x.adjusted(60));
        due("adjusted(MIN)", NONE, () -> x.adjusted(MIN));
        due("adjusted(MAX)", NONE, () -> x.adjusted(MAX));
        x.setHoliday(59, true);
        x.correct(59, -10000);
        due("adjusted(59) of a holiday", -10600, () -> x.adjusted(59));
    }

    private static void segmentsFrom0To60() {
        sentence = "15, how many segments there are";
        SeriesWatcher x = new SeriesWatcher();
        x.setCuts(1, 0);
        due("segments() of nothing", 0, x::segments);
        for (int k = 0; k < 60; k++) {
            x.add(k % 2 == 0 ? 1 : 2);
        }
        due("segments() of 60, each its own", 60, x::segments);
        x.setCuts(2, 0);
        due("segments() of 60, odd lengths of at least 3 being cheapest", 20, x::segments);
        x.drop(59);
        due("segments() of one", 1, x::segments);
        x.drop(1);
        due("segments() after all are dropped", 0, x::segments);
    }

    private static void startOfFirstAndLast() {
        sentence = "16, segment: from 0";
        SeriesWatcher x = new SeriesWatcher();
        x.setCuts(1, 0);
        for (int k = 0; k < 60; k++) {
            x.add(k % 2 == 0 ? 1 : 2);
        }
        due("startOf(-1)", NONE, () -> x.startOf(-1));
        due("startOf(0)", 0, () -> x.startOf(0));
        due("startOf(59)", 59, () -> x.startOf(59));
        due("startOf(60)", NONE, () -> x.startOf(60));
        due("startOf(MIN)", NONE, () -> x.startOf(MIN));
        due("startOf(MAX)", NONE, () -> x.startOf(MAX));
        x.setCuts(1, 100000);
        due("startOf(1), asked first: there is one segment then", NONE, () -> x.startOf(1));
        due("startOf(0)", 0, () -> x.startOf(0));
    }

    private static void levelOfFirstAndLast() {
        sentence = "17, segment: from 0";
        SeriesWatcher x = Watchers.cuts(Watchers.runs(-10000, 20, 0, 20, 10000, 20), 10, 5);
        due("levelOf(-1)", NONE, () -> x.levelOf(-1));
        due("levelOf(0)", -10000, () -> x.levelOf(0));
        due("levelOf(1)", 0, () -> x.levelOf(1));
        due("levelOf(2)", 10000, () -> x.levelOf(2));
        due("levelOf(3)", NONE, () -> x.levelOf(3));
        due("levelOf(MIN)", NONE, () -> x.levelOf(MIN));
        due("levelOf(MAX)", NONE, () -> x.levelOf(MAX));
        x.drop(20);
        due("levelOf(2), asked first: there are two segments then", NONE, () -> x.levelOf(2));
    }

    private static void costAsked() {
        sentence = "18, the cost of the division into the segments; 0 without values";
        SeriesWatcher x = Watchers.runs(0, 3, 500, 3);
        due("cost()", 100, x::cost);
        x.drop(3);
        due("cost(), asked first after drop(3)", 0, x::cost);
        x.addMany(501, 2);
        due("cost(), asked first after addMany", 2, x::cost);
        x.drop(5);
        due("cost(), asked first after all are dropped", 0, x::cost);
    }

    private static void costUncutAsked() {
        sentence = "19, the cost of the division without cuts; 0 without values";
        SeriesWatcher x = Watchers.cuts(Watchers.runs(0, 30, 500, 30), 1, 0);
        due("costUncut() of 60", 15000, x::costUncut);
        due("cost() of 60", 0, x::cost);
        x.drop(59);
        due("costUncut() of one", 0, x::costUncut);
        x.drop(1);
        due("costUncut() after all are dropped", 0, x::costUncut);
    }

    private static void costCutAtFirstAndLast() {
        sentence = "20, cut: 1 to the number of values less 1";
        SeriesWatcher x = Watchers.cuts(Watchers.runs(0, 1, 8, 58, 3, 1), 1, 10);
        due("costCutAt(0)", NONE, () -> x.costCutAt(0));
        due("costCutAt(1)", 15, () -> x.costCutAt(1));
        due("costCutAt(59)", 18, () -> x.costCutAt(59));
        due("costCutAt(60)", NONE, () -> x.costCutAt(60));
        due("costCutAt(-1)", NONE, () -> x.costCutAt(-1));
        due("costCutAt(MIN)", NONE, () -> x.costCutAt(MIN));
        due("costCutAt(MAX)", NONE, () -> x.costCutAt(MAX));
        SeriesWatcher two = Watchers.cuts(Watchers.of(4, 9), 1, 10);
        due("costCutAt(1) of two", 10, () -> two.costCutAt(1));
        due("costCutAt(2) of two", NONE, () -> two.costCutAt(2));
        due("costCutAt(1) of one", NONE, () -> Watchers.cuts(Watchers.of(4), 1, 10).costCutAt(1));
    }

    private static void costCutAtExactlyTheLeastLength() {
        sentence = "20, throws IllegalArgumentException if a segment would have fewer values than the least length";
        for (int least = 2; least <= 10; least++) {
            SeriesWatcher x = Watchers.cuts(Watchers.runs(0, least, 6, 20), least, 9);
            int first = least;
            due("costCutAt(" + least + "), exactly the least length first", 9, () -> x.costCutAt(first));
            due("costCutAt(" + (least - 1) + "), one value fewer first", ILLEGAL, () -> x.costCutAt(first - 1));
            due("costCutAt(20), exactly the least length last", true, () -> x.costCutAt(20) >= 9);
            due("costCutAt(21), one value fewer last", ILLEGAL, () -> x.costCutAt(21));
            SeriesWatcher both = Watchers.cuts(Watchers.runs(0, least, 6, least), least, 9);
            due("costCutAt(" + least + "), exactly the least length twice", 9, () -> both.costCutAt(first));
            both.drop(1);
            due("costCutAt(" + least + "), one value fewer last", ILLEGAL, () -> both.costCutAt(first));
            due("costCutAt(" + (least - 1) + "), one value fewer first", ILLEGAL, () -> both.costCutAt(first - 1));
        }
        SeriesWatcher holidays = Watchers.cuts(Watchers.holidays(Watchers.runs(0, 3, 6, 3), 0, 6), 3, 9);
        due("costCutAt(3), holidays included", 9, () -> holidays.costCutAt(3));
        due("costCutAt(2), holidays included", ILLEGAL, () -> holidays.costCutAt(2));
    }

    private static void costCutAtNamesTheCutFirst() {
        sentence = "20, the exception that is named first";
        SeriesWatcher x = Watchers.cuts(Watchers.runs(0, 20), 10, 9);
        due("costCutAt(0)", NONE, () -> x.costCutAt(0));
        due("costCutAt(20)", NONE, () -> x.costCutAt(20));
        due("costCutAt(1)", ILLEGAL, () -> x.costCutAt(1));
        due("costCutAt(19)", ILLEGAL, () -> x.costCutAt(19));
        due("costCutAt(1) of one value", NONE, () -> Watchers.of(3).costCutAt(1));
        due("costCutAt(1) of nothing", NONE, () -> new SeriesWatcher().costCutAt(1));
    }

    private static void leastCostOf14And15() {
        sentence = "21, throws IllegalStateException if there are more than 14 values";
        SeriesWatcher x = Watchers.runs(0, 7, 90, 7);
        due("leastCost() of 14", 100, x::leastCost);
        x.add(90);
        due("leastCost() of 15", STATE, x::leastCost);
        Watchers.holidays(x, 0, 15);
        due("leastCost() of 15 holidays", STATE, x::leastCost);
        x.drop(1);
        due("leastCost() of 14 holidays", 0, x::leastCost);
        x.addMany(0, 46);
        due("leastCost() of 60", STATE, x::leastCost);
        x.drop(60);
        due("leastCost() after all are dropped", 0, x::leastCost);
    }

    private static void leastCostIsTheCost() {
        sentence = "21, the least cost of all divisions, each of them being tried";
        SeriesWatcher x = new SeriesWatcher();
        for (int value : new int[] {3, 9, -4, 11, 11, 2, -7, 0, 25, 24, 19, 1, 1, 6}) {
            x.add(value);
        }
        x.setCuts(1, 0);
        due("leastCost(), least length 1, cuts free", 0, x::leastCost);
        for (int least = 1; least <= 10; least++) {
            for (int penalty = 0; penalty <= 12; penalty += 3) {
                x.setCuts(least, penalty);
                due("leastCost(), least length " + least + ", penalty " + penalty, x.cost(), x::leastCost);
            }
        }
        x.setCuts(7, 0);
        due("leastCost(), exactly seven and seven or none", Math.min(x.costCutAt(7), x.costUncut()), x::leastCost);
        x.setCuts(8, 0);
        due("leastCost(), none", x.costUncut(), x::leastCost);
        x.setCuts(1, 100000);
        due("leastCost(), no cut is worth it", x.costUncut(), x::leastCost);
    }

    private static void residualFirstAndLast() {
        sentence = "22, the residual of a value, also of a holiday";
        SeriesWatcher x = Watchers.cuts(Watchers.runs(10, 29, 13, 1, 50, 29, 45, 1), 10, 20);
        due("residual(-1)", NONE, () -> x.residual(-1));
        due("residual(0)", 0, () -> x.residual(0));
        due("residual(29), the last of the first segment", 3, () -> x.residual(29));
        due("residual(30), the first of the last segment", 0, () -> x.residual(30));
        due("residual(59)", -5, () -> x.residual(59));
        due("residual(60)", NONE, () -> x.residual(60));
        due("residual(MIN)", NONE, () -> x.residual(MIN));
        due("residual(MAX)", NONE, () -> x.residual(MAX));
        x.setHoliday(59, true);
        due("residual(59) of a holiday", -5, () -> x.residual(59));
    }

    private static void deviationAsked() {
        sentence = "23, the deviation";
        SeriesWatcher x = Watchers.cuts(Watchers.runs(0, 31, 8, 29), 10, 100000);
        due("deviation() of 60: 31 of 0, 29 of 8", 0, x::deviation);
        x.setHoliday(0, true);
        x.setHoliday(1, true);
        due("deviation() of 58: 29 of 0, 29 of 8", 0, x::deviation);
        x.setHoliday(2, true);
        due("deviation() of 57, the level 8: 28 of 8, 29 of 0", 0, x::deviation);
        x.correct(59, 9);
        due("deviation() of 57, asked first after correct: 28 of 8, 28 of 0, one of 1", 1, x::deviation);
        x.drop(60);
        due("deviation(), asked first after all are dropped", 0, x::deviation);
    }

    private static void boundAsked() {
        sentence = "24, the bound";
        SeriesWatcher x = Watchers.of(0, 7, 14);
        x.setBound(100, 0);
        due("bound(), asked first", 7, x::bound);
        x.drop(3);
        due("bound(), asked first after all are dropped, no floor", 0, x::bound);
        x.setBound(100, 1000);
        due("bound() of nothing, the highest floor", 1000, x::bound);
    }

    private static void verdictFirstAndLast() {
        sentence = "25, throws IndexOutOfBoundsException if there is no such value";
        SeriesWatcher x = Watchers.runs(90, 1, 0, 58, -90, 1);
        due("verdict(-1)", NONE, () -> x.verdict(-1));
        due("verdict(0)", 1, () -> x.verdict(0));
        due("verdict(1)", 0, () -> x.verdict(1));
        due("verdict(58)", 0, () -> x.verdict(58));
        due("verdict(59)", 2, () -> x.verdict(59));
        due("verdict(60)", NONE, () -> x.verdict(60));
        due("verdict(MIN)", NONE, () -> x.verdict(MIN));
        due("verdict(MAX)", NONE, () -> x.verdict(MAX));
    }

    private static void anomaliesFirstAndLast() {
        sentence = "26, how many values have the verdict 1 or 2";
        SeriesWatcher x = Watchers.runs(90, 1, 0, 58, -90, 1);
        due("anomalies(): the first and the last of 60", 2, x::anomalies);
        x.setHoliday(0, true);
        due("anomalies(): the last of 60", 1, x::anomalies);
        x.setHoliday(59, true);
        due("anomalies(): none", 0, x::anomalies);
        SeriesWatcher dropped = Watchers.runs(0, 6, 90, 1);
        due("anomalies(): the last of 7", 1, dropped::anomalies);
        dropped.drop(1);
        due("anomalies(), asked first after drop: the last of 6", 1, dropped::anomalies);
        SeriesWatcher many = new SeriesWatcher();
        many.setBound(100, 0);
        many.setCuts(10, 100000);
        for (int k = 0; k < 59; k++) {
            many.add(k < 30 ? 0 : k % 2 == 0 ? 50 : -50);
        }
        due("anomalies(): all but the 30 of the level", 29, many::anomalies);
    }

    private static void expectedOfTheNext() {
        sentence = "27, the level of the last segment (0 without values) and the season of its phase, together";
        SeriesWatcher x = Watchers.season(new SeriesWatcher(), 12);
        due("expected() of nothing", 0, x::expected);
        for (int k = 0; k < 59; k++) {
            x.add(k % 12 * 100);
        }
        due("expected(): value 59 has the last phase", 1100, x::expected);
        x.add(1100);
        due("expected(): value 60 has the first phase", 0, x::expected);
        due("expected() of holidays alone", 0, Watchers.holidays(Watchers.runs(-77, 3), 0, 3)::expected);
        x.drop(60);
        due("expected() after all are dropped", 0, x::expected);
    }

    private static void judgeAnyNumber() {
        sentence = "28, value: any number";
        SeriesWatcher x = Watchers.bound(Watchers.of(10, 10, 10), 100, 1000);
        due("judge(1010), by the bound", 0, () -> x.judge(1010));
        due("judge(1011), by more than the bound", 1, () -> x.judge(1011));
        due("judge(-990), by the bound", 0, () -> x.judge(-990));
        due("judge(-991), by more than the bound", 2, () -> x.judge(-991));
        due("judge(10001), beyond what a value can be", 1, () -> x.judge(10001));
        due("judge(-10001), beyond what a value can be", 2, () -> x.judge(-10001));
        due("judge(MAX)", 1, () -> x.judge(MAX));
        due("judge(MIN)", 2, () -> x.judge(MIN));
        due("judge(MAX) of nothing", 1, () -> new SeriesWatcher().judge(MAX));
        due("judge(MIN) of nothing", 2, () -> new SeriesWatcher().judge(MIN));
        due("size(): nothing was added", 3, x::size);
        SeriesWatcher full = Watchers.runs(10, 60);
        due("judge(12), where there are 60 values", 1, () -> full.judge(12));
    }

    private static void judgeHoweverGreat() {
        sentence = "28, the difference being exact, however great";
        SeriesWatcher low = Watchers.runs(-10000, 60);
        due("judge(MAX), -10000 being expected", 1, () -> low.judge(MAX));
        due("judge(MAX - 9999), the difference 2^31 + 0", 1, () -> low.judge(MAX - 9999));
        due("judge(MAX - 10000), the difference 2^31 - 1", 1, () -> low.judge(MAX - 10000));
        due("judge(MIN), -10000 being expected", 2, () -> low.judge(MIN));
        SeriesWatcher high = Watchers.runs(10000, 60);
        due("judge(MIN), 10000 being expected", 2, () -> high.judge(MIN));
        due("judge(MIN + 9999), the difference -2^31 - 1", 2, () -> high.judge(MIN + 9999));
        due("judge(MIN + 10000), the difference -2^31", 2, () -> high.judge(MIN + 10000));
        due("judge(MAX), 10000 being expected", 1, () -> high.judge(MAX));
        SeriesWatcher wide = Watchers.bound(Watchers.of(-10000, 0, 10000), 2000, 1000);
        due("judge(200000), by the widest bound", 0, () -> wide.judge(200000));
        due("judge(200001)", 1, () -> wide.judge(200001));
        due("judge(-200000)", 0, () -> wide.judge(-200000));
        due("judge(-200001)", 2, () -> wide.judge(-200001));
        due("judge(MAX)", 1, () -> wide.judge(MAX));
        due("judge(MIN)", 2, () -> wide.judge(MIN));
    }

    private static void judgeAskedFirst() {
        sentence = "28, by the bound of now";
        SeriesWatcher x = Watchers.of(0, 7, 14);
        due("judge(28)", 0, () -> x.judge(28));
        due("judge(29)", 1, () -> x.judge(29));
        x.setBound(100, 0);
        due("judge(15) after setBound", 1, () -> x.judge(15));
        due("judge(14) after setBound", 0, () -> x.judge(14));
        x.correct(2, 7);
        due("judge(8), asked first after correct", 1, () -> x.judge(8));
        x.drop(3);
        due("judge(7), asked first after all are dropped", 1, () -> x.judge(7));
        due("judge(0)", 0, () -> x.judge(0));
        x.addMany(-50, 2);
        due("judge(-50), asked first after addMany", 0, () -> x.judge(-50));
        x.setHoliday(0, true);
        x.setHoliday(1, true);
        due("judge(-50), asked first after setHoliday", 2, () -> x.judge(-50));
        SeriesWatcher cut = Watchers.bound(Watchers.runs(0, 3, 40, 2), 100, 0);
        due("judge(0)", 0, () -> cut.judge(0));
        cut.setCuts(2, 5);
        due("judge(40), asked first after setCuts", 0, () -> cut.judge(40));
        cut.setSeason(4);
        due("judge(0), asked first after setSeason", 0, () -> cut.judge(0));
    }
}
