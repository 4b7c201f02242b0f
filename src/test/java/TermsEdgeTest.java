import java.util.function.Supplier;

/**
 * A test for each sentence of the document's Terms that names a boundary case. The answers that are due
 * are worked out by hand. (What refused calls leave as it was stands in RefusedCallTest.)
 */
public final class TermsEdgeTest {
    private static final String NONE = "throws IndexOutOfBoundsException";
    private static final String STATE = "throws IllegalStateException";

    private static String sentence = "";

    public static void main(String[] args) {
        valuesAreNumberedFrom0();
        atMost60Values();
        holidaysAreLeftOut();
        allValuesHolidays();
        medianOfAnOddNumber();
        medianOfAnEvenNumberIsTheLower();
        medianOfNoNumbersIs0();
        seasonLengthAtFirst1();
        seasonLengths1And12();
        phaseIsNumberModuloLength();
        phasesWithoutWorkingValues();
        farthestSeasonsAndAdjustedValues();
        leastLengthAtFirst2();
        leastLengths1And10();
        fewerValuesThanTheLeastLength();
        holidaysCountForTheLeastLength();
        levelOfASegmentOfHolidays();
        costIsWithoutSigns();
        penaltyAtFirst100();
        penalty0();
        penalty100000();
        ofTheSameCostTheFewestCuts();
        ofThoseTheLowestFirstCut();
        thenTheLowestSecondCut();
        cutIsBetweenTwoValues();
        withoutValuesNoSegments();
        residualsWithoutTheirSigns();
        factorAtFirst300();
        factors100And2000();
        boundIsRoundedDown();
        floorAtFirst1();
        boundIsAtLeastTheFloor();
        verdictAtTheBound();
        verdictWithABoundOf0();
        verdictOfAHoliday();
        Checks.end("TermsEdgeTest");
    }

    private static void due(String call, Object due, Supplier<Object> made) {
        Checks.same(sentence + ": " + call, Checks.outcome(made), due);
    }

    private static void valuesAreNumberedFrom0() {
        sentence = "Values are numbered from 0 on, in the order in which they are added";
        SeriesWatcher x = new SeriesWatcher();
        due("add, the first", 0, () -> x.add(30));
        due("add, the second", 1, () -> x.add(10));
        due("value(0)", 30, () -> x.value(0));
        due("value(1)", 10, () -> x.value(1));
        due("value(-1)", NONE, () -> x.value(-1));
        due("value(2)", NONE, () -> x.value(2));
    }

    private static void atMost60Values() {
        sentence = "there are at most 60";
        SeriesWatcher x = new SeriesWatcher();
        for (int k = 0; k < 60; k++) {
            int number = k;
            due("add, the value " + k, k, () -> x.add(100 - number));
        }
        due("add, the 61st", STATE, () -> x.add(0));
        due("addMany, the 61st", STATE, () -> x.addMany(0, 1));
        due("size()", 60, x::size);
        due("value(0)", 100, () -> x.value(0));
        due("value(59)", 41, () -> x.value(59));
        due("value(60)", NONE, () -> x.value(60));
        due("base() of 41 to 100", 70, x::base);
        due("drop(1)", 59, () -> x.drop(1));
        due("value(58)", 41, () -> x.value(58));
        due("add, the 60th again", 59, () -> x.add(0));
        due("add, the 61st again", STATE, () -> x.add(0));
    }

    private static void holidaysAreLeftOut() {
        sentence = "A value can be a holiday; the others are working values";
        SeriesWatcher first = Watchers.holidays(Watchers.of(9000, 4, 6, 8), 0, 1);
        due("base(), the first value a holiday", 6, first::base);
        SeriesWatcher last = Watchers.holidays(Watchers.of(4, 6, 8, -9000), 3, 4);
        due("base(), the last value a holiday", 6, last::base);
        due("expected(), the last value a holiday", 6, last::expected);
        SeriesWatcher one = Watchers.holidays(Watchers.runs(3, 59, 77, 1), 0, 59);
        due("base(), the 60th alone a working value", 77, one::base);
        due("anomalies(), the 60th alone a working value", 0, one::anomalies);
        due("residual(0), the 60th alone a working value", -74, () -> one.residual(0));
    }

    private static void allValuesHolidays() {
        sentence = "holidays are left out: all values holidays";
        SeriesWatcher x = Watchers.cuts(Watchers.holidays(Watchers.runs(-50, 7, 90, 7), 0, 14), 1, 0);
        x.setSeason(3);
        due("size()", 14, x::size);
        due("base()", 0, x::base);
        due("season(2)", 0, () -> x.season(2));
        due("adjusted(13)", 90, () -> x.adjusted(13));
        due("segments(): the fewest cuts of the same cost", 1, x::segments);
        due("startOf(0)", 0, () -> x.startOf(0));
        due("levelOf(0)", 0, () -> x.levelOf(0));
        due("cost()", 0, x::cost);
        due("costUncut()", 0, x::costUncut);
        due("leastCost()", 0, x::leastCost);
        due("residual(0)", -50, () -> x.residual(0));
        due("deviation()", 0, x::deviation);
        due("bound(): the floor", 1, x::bound);
        due("verdict(0)", 3, () -> x.verdict(0));
        due("verdict(13)", 3, () -> x.verdict(13));
        due("anomalies()", 0, x::anomalies);
        due("expected()", 0, x::expected);
        due("judge(1)", 0, () -> x.judge(1));
        due("judge(2)", 1, () -> x.judge(2));
        x.setCuts(7, 100000);
        due("costCutAt(7): the penalty alone", 100000, () -> x.costCutAt(7));
        due("setHoliday(13, false)", true, () -> x.setHoliday(13, false));
        due("base(), one of them a working value again", 90, x::base);
        SeriesWatcher full = Watchers.holidays(Watchers.runs(9, 60), 0, 60);
        due("base(), 60 of them", 0, full::base);
        due("segments(), 60 of them", 1, full::segments);
        due("anomalies(), 60 of them", 0, full::anomalies);
        due("expected(), 60 of them", 0, full::expected);
    }

    private static void medianOfAnOddNumber() {
        sentence = "The median of some numbers is the one in the middle when they are sorted";
        due("base() of one", 10000, Watchers.of(10000)::base);
        due("base() of three", -1, Watchers.of(5, -9, -1)::base);
        due("base() of equal ones", 4, Watchers.of(4, 4, 4)::base);
        due("base() of 59", 30, upTo(59)::base);
        due("levelOf(0) of 59", 30, () -> Watchers.cuts(upTo(59), 2, 100000).levelOf(0));
    }

    private static void medianOfAnEvenNumberIsTheLower() {
        sentence = "of an even number of them the lower one of the two in the middle";
        due("base() of two", -10000, Watchers.of(10000, -10000)::base);
        due("base() of four", 2, Watchers.of(9, 3, 2, 1)::base);
        due("base() of negative ones", -3, Watchers.of(-9, -1, -3, -2)::base);
        due("base() of 60", 30, upTo(60)::base);
        due("levelOf(0) of 60", 30, () -> Watchers.cuts(upTo(60), 2, 100000).levelOf(0));
        SeriesWatcher x = Watchers.season(Watchers.of(0, 0, 0, 5, 0, 9), 2);
        due("season(1) of two that work", 5, () -> Watchers.holidays(x, 1, 2).season(1));
        due("deviation() of 0 and 7", 0, Watchers.of(10, 17)::deviation);
        due("deviation() of 10 0 20 50", 10, Watchers.of(0, 10, 30, 60)::deviation);
    }

    private static void medianOfNoNumbersIs0() {
        sentence = "the median of no numbers is 0";
        SeriesWatcher x = new SeriesWatcher();
        due("base() of nothing", 0, x::base);
        due("season(0) of nothing", 0, () -> x.season(0));
        due("deviation() of nothing", 0, x::deviation);
        SeriesWatcher holiday = Watchers.holidays(Watchers.of(-8), 0, 1);
        due("base() of a holiday", 0, holiday::base);
        due("levelOf(0) of a holiday", 0, () -> holiday.levelOf(0));
        due("deviation() of a holiday", 0, holiday::deviation);
    }

    private static void seasonLengthAtFirst1() {
        sentence = "The season has a length, at first 1";
        due("setSeason(1): the length before", 1, () -> new SeriesWatcher().setSeason(1));
        SeriesWatcher x = Watchers.of(5, 8, -2);
        due("season(0): the base less itself", 0, () -> x.season(0));
        due("season(1)", NONE, () -> x.season(1));
        due("adjusted(1)", 8, () -> x.adjusted(1));
    }

    private static void seasonLengths1And12() {
        sentence = "The season has a length, 1 to 12";
        SeriesWatcher x = upTo(24);
        due("setSeason(12)", 1, () -> x.setSeason(12));
        due("base() of 1 to 24", 12, x::base);
        due("season(0): of -11 and 1", -11, () -> x.season(0));
        due("season(11): of 0 and 12", 0, () -> x.season(11));
        due("season(12)", NONE, () -> x.season(12));
        due("adjusted(0)", 12, () -> x.adjusted(0));
        due("adjusted(11)", 12, () -> x.adjusted(11));
        due("adjusted(12)", 24, () -> x.adjusted(12));
        due("adjusted(23)", 24, () -> x.adjusted(23));
        due("setSeason(1)", 12, () -> x.setSeason(1));
        due("adjusted(23)", 24, () -> x.adjusted(23));
        due("season(1)", NONE, () -> x.season(1));
    }

    private static void phaseIsNumberModuloLength() {
        sentence = "The phase of the value i is i modulo that length";
        SeriesWatcher x = Watchers.season(Watchers.of(1, 2, 3, 1, 2, 3, 1), 3);
        due("season(0)", -1, () -> x.season(0));
        due("season(2)", 1, () -> x.season(2));
        due("adjusted(2): the last phase", 2, () -> x.adjusted(2));
        due("adjusted(3): the first phase again", 2, () -> x.adjusted(3));
        due("expected(): value 7 has phase 1", 2, x::expected);
        x.addMany(2, 1);
        due("expected(): value 8 has phase 2", 3, x::expected);
        x.addMany(3, 1);
        due("expected(): value 9 has phase 0", 1, x::expected);
        SeriesWatcher full = new SeriesWatcher();
        for (int k = 0; k < 60; k++) {
            full.add(k % 7);
        }
        full.setSeason(7);
        due("adjusted(59), of phase 3", 3, () -> full.adjusted(59));
        due("expected(): value 60 has phase 4 of 7", 4, full::expected);
        full.setSeason(12);
        due("expected(): value 60 has phase 0 of 12, of 0 5 3 1 6", 3, full::expected);
    }

    private static void phasesWithoutWorkingValues() {
        sentence = "the season of a phase is the median of the working values of this phase: there are none";
        SeriesWatcher x = Watchers.season(Watchers.of(40, 60, 40), 12);
        due("season(3), beyond the values", 0, () -> x.season(3));
        due("season(11), beyond the values", 0, () -> x.season(11));
        due("expected(), beyond the values", 40, x::expected);
        Watchers.holidays(x, 1, 2);
        due("season(1), a holiday alone", 0, () -> x.season(1));
        due("adjusted(1), a holiday alone", 60, () -> x.adjusted(1));
    }

    /** A phase of 10000 and a phase of -10000, the farthest that seasons can be from the base. */
    private static void farthestSeasonsAndAdjustedValues() {
        sentence = "each -10000 to 10000: the farthest seasons and adjusted values";
        SeriesWatcher low = farthest(1);
        due("base()", 10000, low::base);
        due("season(1)", -20000, () -> low.season(1));
        due("adjusted(3)", 30000, () -> low.adjusted(3));
        due("the starts", "0 7", () -> Watchers.starts(low));
        due("cost()", 100, low::cost);
        due("expected()", -30000, low::expected);
        SeriesWatcher high = farthest(-1);
        due("base()", -10000, high::base);
        due("season(1)", 20000, () -> high.season(1));
        due("adjusted(3)", -30000, () -> high.adjusted(3));
        due("the starts", "0 7", () -> Watchers.starts(high));
        due("expected()", 30000, high::expected);
    }

    private static SeriesWatcher farthest(int sign) {
        SeriesWatcher x = Watchers.season(new SeriesWatcher(), 2);
        for (int k = 0; k < 11; k++) {
            boolean high = k % 2 == 0 ? k < 8 : k == 3;
            x.add(high ? sign * 10000 : sign * -10000);
        }
        for (int k = 3; k < 11; k += 2) {
            x.setHoliday(k, true);
        }
        return x;
    }

    private static void leastLengthAtFirst2() {
        sentence = "the least length, at first 2";
        due("segments() of two and two", 2, Watchers.of(0, 0, 200, 200)::segments);
        due("segments() of two and one", 1, Watchers.of(0, 0, 2000)::segments);
        due("segments() of one and two", 1, Watchers.of(0, 2000, 2000)::segments);
        due("costCutAt(2)", 100, () -> Watchers.of(0, 0, 200, 200).costCutAt(2));
        due("costCutAt(2) of three", "throws IllegalArgumentException", () -> Watchers.of(0, 0, 2).costCutAt(2));
    }

    private static void leastLengths1And10() {
        sentence = "Each segment has at least as many values as the least length, 1 to 10";
        SeriesWatcher one = Watchers.cuts(Watchers.of(1, 2, 1), 1, 0);
        due("the starts, least length 1", "0 1 2", () -> Watchers.starts(one));
        SeriesWatcher ten = Watchers.cuts(Watchers.runs(0, 10, 50, 10), 10, 0);
        due("the starts, ten and ten", "0 10", () -> Watchers.starts(ten));
        SeriesWatcher right = Watchers.cuts(Watchers.runs(0, 10, 50, 9), 10, 0);
        due("the starts, ten and nine", "0", () -> Watchers.starts(right));
        SeriesWatcher left = Watchers.cuts(Watchers.runs(0, 9, 50, 10), 10, 0);
        due("the starts, nine and ten", "0", () -> Watchers.starts(left));
        SeriesWatcher middle = Watchers.cuts(Watchers.runs(0, 10, 50, 10, 0, 10), 10, 0);
        due("the starts, three of ten", "0 10 20", () -> Watchers.starts(middle));
        SeriesWatcher narrow = Watchers.cuts(Watchers.runs(0, 10, 50, 9, 0, 11), 10, 0);
        due("the starts, nine in the middle", "0 10 20", () -> Watchers.starts(narrow));
        due("cost(), nine in the middle and one more", 50, narrow::cost);
        SeriesWatcher full = Watchers.cuts(Watchers.runs(0, 10, 50, 10, 0, 10, 50, 10, 0, 10, 50, 10), 10, 0);
        due("the starts, six of ten", "0 10 20 30 40 50", () -> Watchers.starts(full));
    }

    private static void fewerValuesThanTheLeastLength() {
        sentence = "if there are fewer values than that, all of them are one segment";
        SeriesWatcher nine = Watchers.cuts(Watchers.runs(0, 5, 50, 4), 10, 0);
        due("segments() of 9, least length 10", 1, nine::segments);
        due("startOf(0) of 9", 0, () -> nine.startOf(0));
        due("startOf(1) of 9", NONE, () -> nine.startOf(1));
        due("levelOf(0) of 9", 0, () -> nine.levelOf(0));
        due("cost() of 9", 200, nine::cost);
        due("costUncut() of 9", 200, nine::costUncut);
        due("leastCost() of 9", 200, nine::leastCost);
        due("residual(8) of 9", 50, () -> nine.residual(8));
        nine.add(50);
        due("segments() of 10, least length 10", 1, nine::segments);
        due("cost() of 10", 250, nine::cost);
        due("leastCost() of 10", 250, nine::leastCost);
        SeriesWatcher one = Watchers.of(5);
        due("segments() of 1, least length 2", 1, one::segments);
        due("levelOf(0) of 1", 5, () -> one.levelOf(0));
        due("leastCost() of 1", 0, one::leastCost);
        SeriesWatcher shrunk = Watchers.cuts(Watchers.runs(0, 2, 50, 2), 2, 0);
        due("segments() of 4", 2, shrunk::segments);
        shrunk.setCuts(5, 0);
        due("segments() of 4, the least length 5 then", 1, shrunk::segments);
    }

    private static void holidaysCountForTheLeastLength() {
        sentence = "Each segment has at least as many values, holidays included, as the least length";
        SeriesWatcher x = Watchers.cuts(Watchers.runs(0, 3, 50, 3), 3, 0);
        Watchers.holidays(Watchers.holidays(x, 0, 2), 4, 6);
        due("the starts, one working value in each", "0 3", () -> Watchers.starts(x));
        SeriesWatcher y = Watchers.cuts(Watchers.runs(0, 2, 7, 3, 50, 1), 3, 0);
        Watchers.holidays(y, 2, 5);
        due("the starts, the holidays between them", "0 3", () -> Watchers.starts(y));
    }

    private static void levelOfASegmentOfHolidays() {
        sentence = "The level of a segment is the median of the adjusted working values in it: there are none";
        SeriesWatcher x = Watchers.cuts(Watchers.of(9, 9, 7, 9, 30, 30), 2, 50);
        Watchers.holidays(x, 0, 4);
        due("segments(): holidays cost nothing anywhere", 1, x::segments);
        due("costCutAt(4): holidays alone, then two", 50, () -> x.costCutAt(4));
        due("residual(0)", -21, () -> x.residual(0));
        SeriesWatcher alone = Watchers.holidays(Watchers.runs(4, 60), 0, 60);
        due("levelOf(0), holidays alone", 0, () -> alone.levelOf(0));
        due("residual(59), holidays alone", 4, () -> alone.residual(59));
        due("costUncut(), holidays alone", 0, alone::costUncut);
    }

    private static void costIsWithoutSigns() {
        sentence = "its cost is the sum of their differences from the level, without their signs";
        due("cost() of -5 0 5", 10, Watchers.of(-5, 0, 5)::cost);
        due("cost() of an even number", 20, Watchers.of(-5, 5, -5, 5)::cost);
        SeriesWatcher far = Watchers.runs(-10000, 30, 10000, 30);
        due("costUncut() of the 60 farthest", 600000, far::costUncut);
        due("costCutAt(15) of them", 300100, () -> far.costCutAt(15));
        SeriesWatcher turns = Watchers.cuts(new SeriesWatcher(), 10, 100000);
        for (int k = 0; k < 60; k++) {
            turns.add(k % 2 == 0 ? -10000 : 10000);
        }
        due("cost() of 60 in turn", 600000, turns::cost);
        due("segments() of 60 in turn", 1, turns::segments);
        turns.setCuts(10, 0);
        due("cost() of 60 in turn, cuts into four odd lengths being free", 560000, turns::cost);
        due("the starts of 60 in turn", "0 11 22 33", () -> Watchers.starts(turns));
    }

    private static void penaltyAtFirst100() {
        sentence = "the penalty, at first 100, for each cut";
        due("segments(): a cut saves 99", 1, Watchers.of(0, 0, 49, 50)::segments);
        due("segments(): a cut saves 100, no less", 1, Watchers.of(0, 0, 50, 50)::segments);
        due("segments(): a cut saves 102", 2, Watchers.of(0, 0, 51, 51)::segments);
        due("cost(): one cut", 100, Watchers.of(0, 0, 51, 51)::cost);
        SeriesWatcher two = Watchers.runs(0, 3, 51, 2, 0, 3);
        due("segments(): two cuts save 102", 1, two::segments);
        due("cost(): two cuts save 102", 102, two::cost);
        SeriesWatcher three = Watchers.runs(0, 3, 101, 2, 0, 3);
        due("segments(): two cuts save 202", 3, three::segments);
        due("cost(): two cuts", 200, three::cost);
    }

    private static void penalty0() {
        sentence = "the penalty, 0 to 100000: cuts are free";
        SeriesWatcher x = Watchers.cuts(Watchers.of(5, 5, 6, 6), 1, 0);
        due("the starts, each cut that saves anything", "0 2", () -> Watchers.starts(x));
        due("cost()", 0, x::cost);
        SeriesWatcher same = Watchers.cuts(Watchers.runs(5, 60), 1, 0);
        due("segments(): no cut saves anything", 1, same::segments);
        x.setCuts(1, 1);
        due("segments(): the penalty is 1, a cut saves 2", 2, x::segments);
        x.setCuts(1, 2);
        due("segments(): the penalty is 2", 1, x::segments);
    }

    private static void penalty100000() {
        sentence = "the penalty, 0 to 100000: cuts cost the most";
        SeriesWatcher as = Watchers.cuts(Watchers.runs(0, 10, 10000, 10), 10, 100000);
        due("segments(): a cut saves 100000", 1, as::segments);
        due("cost()", 100000, as::cost);
        due("costCutAt(10)", 100000, () -> as.costCutAt(10));
        SeriesWatcher more = Watchers.cuts(Watchers.runs(0, 11, 9999, 10, 5005, 1), 10, 100000);
        due("costUncut()", 104995, more::costUncut);
        due("costCutAt(11)", 104994, () -> more.costCutAt(11));
        due("the starts: a cut saves 100001", "0 11", () -> Watchers.starts(more));
        SeriesWatcher less = Watchers.cuts(Watchers.runs(0, 11, 9999, 10, 5004, 1), 10, 100000);
        due("the starts: a cut saves 99999", "0", () -> Watchers.starts(less));
        SeriesWatcher six = Watchers.runs(-10000, 10, 10000, 10, -10000, 10, 10000, 10, -10000, 10, 10000, 10);
        six.setCuts(10, 100000);
        due("cost(): none 600000, and five cuts as cheap as one", 500000, six::cost);
        due("the starts: one cut", "0 10", () -> Watchers.starts(six));
        six.setCuts(10, 99999);
        due("cost(): five cuts are cheaper by four", 499995, six::cost);
        due("the starts: five cuts", "0 10 20 30 40 50", () -> Watchers.starts(six));
    }

    private static void ofTheSameCostTheFewestCuts() {
        sentence = "of several the one with the fewest cuts";
        SeriesWatcher x = Watchers.cuts(Watchers.of(0, 1, 0), 1, 1);
        due("segments(): none as cheap as one", 1, x::segments);
        SeriesWatcher one = Watchers.cuts(Watchers.runs(0, 3, 5, 1, 0, 3, 20, 3), 1, 3);
        due("cost(): two cuts and three are dearer than one", 8, one::cost);
        due("the starts", "0 7", () -> Watchers.starts(one));
        SeriesWatcher three = Watchers.cuts(Watchers.runs(0, 3, 6, 1, 0, 3, 20, 3), 1, 3);
        due("cost(): one cut is as cheap as three", 9, three::cost);
        due("the starts: one cut", "0 7", () -> Watchers.starts(three));
        three.correct(3, 7);
        due("the starts: three cuts are cheaper by one", "0 3 4 7", () -> Watchers.starts(three));
        SeriesWatcher full = Watchers.cuts(Watchers.runs(0, 30, 10, 30), 1, 300);
        due("segments() of 60: none as cheap as one", 1, full::segments);
        full.setCuts(1, 299);
        due("segments() of 60: one is cheaper", 2, full::segments);
    }

    private static void ofThoseTheLowestFirstCut() {
        sentence = "of those the one whose cuts come first";
        SeriesWatcher x = Watchers.cuts(Watchers.of(0, 0, 5, 10, 10), 2, 1);
        due("costCutAt(2)", 6, () -> x.costCutAt(2));
        due("costCutAt(3)", 6, () -> x.costCutAt(3));
        due("the starts", "0 2", () -> Watchers.starts(x));
        SeriesWatcher holidays = Watchers.cuts(Watchers.runs(0, 20, 3, 20, 80, 20), 1, 1);
        Watchers.holidays(holidays, 20, 40);
        due("the starts, 20 holidays between them", "0 20", () -> Watchers.starts(holidays));
        SeriesWatcher atLeast = Watchers.cuts(Watchers.runs(0, 1, 3, 58, 80, 1), 10, 1);
        Watchers.holidays(atLeast, 1, 59);
        due("the starts, the first cut that the least length leaves", "0 10", () -> Watchers.starts(atLeast));
    }

    private static void thenTheLowestSecondCut() {
        sentence = "divisions of equally many cuts are compared by their first cuts, then by their second ones";
        SeriesWatcher x = Watchers.cuts(Watchers.of(0, 5, 10, 10, 15, 20), 2, 1);
        due("cost()", 12, x::cost);
        due("the starts", "0 2 4", () -> Watchers.starts(x));
        SeriesWatcher second = Watchers.cuts(Watchers.of(0, 0, 50, 50, 55, 60, 60), 2, 1);
        due("the starts, the second cut 4 or 5", "0 2 4", () -> Watchers.starts(second));
        SeriesWatcher either = Watchers.cuts(Watchers.runs(0, 4, 50, 4, 100, 4), 2, 1);
        Watchers.holidays(Watchers.holidays(either, 3, 5), 7, 9);
        due("the starts, both cuts among holidays", "0 3 7", () -> Watchers.starts(either));
        SeriesWatcher third = Watchers.cuts(Watchers.runs(0, 14, 50, 14, 0, 14, 50, 18), 2, 1);
        Watchers.holidays(third, 41, 44);
        due("the starts of 60, the third cut among holidays", "0 14 28 41", () -> Watchers.starts(third));
        SeriesWatcher firstCounts = Watchers.cuts(Watchers.of(0, 0, 10, 10, 0, 0, 10, 10), 2, 20);
        due("cost(): no cut, or one at 2 or 6, or three", 40, firstCounts::cost);
        due("the starts", "0", () -> Watchers.starts(firstCounts));
    }

    private static void cutIsBetweenTwoValues() {
        sentence = "The cut c is between the values c - 1 and c";
        SeriesWatcher x = Watchers.cuts(Watchers.of(0, 90, 90, 90), 1, 5);
        due("costCutAt(1): after the first value", 5, () -> x.costCutAt(1));
        due("startOf(1)", 1, () -> x.startOf(1));
        due("residual(0)", 0, () -> x.residual(0));
        due("residual(1)", 0, () -> x.residual(1));
        SeriesWatcher last = Watchers.cuts(Watchers.of(0, 0, 0, 90), 1, 5);
        due("costCutAt(3): ahead of the last value", 5, () -> last.costCutAt(3));
        due("startOf(1)", 3, () -> last.startOf(1));
        due("residual(2)", 0, () -> last.residual(2));
        due("residual(3)", 0, () -> last.residual(3));
    }

    private static void withoutValuesNoSegments() {
        sentence = "Without values there are no segments";
        SeriesWatcher dropped = Watchers.runs(0, 5, 700, 5);
        due("segments(), while there are values", 2, dropped::segments);
        due("cost(), while there are values", 100, dropped::cost);
        dropped.drop(10);
        for (SeriesWatcher x : new SeriesWatcher[] {new SeriesWatcher(), dropped}) {
            due("segments()", 0, x::segments);
            due("startOf(0)", NONE, () -> x.startOf(0));
            due("levelOf(0)", NONE, () -> x.levelOf(0));
            due("cost()", 0, x::cost);
            due("costUncut()", 0, x::costUncut);
            due("leastCost()", 0, x::leastCost);
            due("costCutAt(0)", NONE, () -> x.costCutAt(0));
            due("costCutAt(1)", NONE, () -> x.costCutAt(1));
            due("deviation()", 0, x::deviation);
            due("expected()", 0, x::expected);
            due("residual(0)", NONE, () -> x.residual(0));
            due("verdict(0)", NONE, () -> x.verdict(0));
            due("anomalies()", 0, x::anomalies);
        }
    }

    private static void residualsWithoutTheirSigns() {
        sentence = "The deviation is the median of the residuals of all working values, without their signs";
        due("deviation() of -20 -10 0 10 20", 10, Watchers.of(-20, -10, 0, 10, 20)::deviation);
        due("deviation() of more residuals below 0 than above", 3,
                Watchers.of(4, 7, 10, 10, 10, 7, 7, 13, 13)::deviation);
        due("deviation() of the farthest", 10000, Watchers.of(-10000, 0, 10000)::deviation);
        due("deviation(): one value", 0, Watchers.of(-10000)::deviation);
    }

    private static void factorAtFirst300() {
        sentence = "the factor, at first 300";
        due("bound() of a deviation of 1", 3, Watchers.of(0, 1, 2)::bound);
        due("bound() of a deviation of 10000", 30000, Watchers.of(-10000, 0, 10000)::bound);
    }

    private static void factors100And2000() {
        sentence = "The bound is the factor, 100 to 2000 percent, of the deviation";
        SeriesWatcher x = Watchers.bound(Watchers.of(0, 7, 14), 100, 0);
        due("bound(), 100 percent", 7, x::bound);
        x.setBound(2000, 0);
        due("bound(), 2000 percent", 140, x::bound);
        SeriesWatcher far = Watchers.bound(Watchers.of(-10000, 0, 10000), 2000, 1000);
        due("bound(), 2000 percent of 10000", 200000, far::bound);
    }

    private static void boundIsRoundedDown() {
        sentence = "of the deviation, rounded down";
        SeriesWatcher x = Watchers.bound(Watchers.of(0, 1, 2), 199, 0);
        due("bound(), 1.99", 1, x::bound);
        x.setBound(200, 0);
        due("bound(), 2", 2, x::bound);
        x.setBound(1999, 0);
        due("bound(), 19.99", 19, x::bound);
        SeriesWatcher y = Watchers.bound(Watchers.of(0, 99, 198), 101, 0);
        due("bound(), 99.99", 99, y::bound);
        SeriesWatcher z = Watchers.bound(Watchers.of(0, 100, 200), 101, 0);
        due("bound(), 101", 101, z::bound);
    }

    private static void floorAtFirst1() {
        sentence = "the floor, at first 1";
        due("bound() of nothing", 1, new SeriesWatcher()::bound);
        due("bound() of equal ones", 1, Watchers.runs(8, 60)::bound);
        due("anomalies(): 1 beside them", 0, Watchers.runs(8, 30, 9, 1, 7, 1)::anomalies);
        due("anomalies(): 2 beside them", 2, Watchers.runs(8, 30, 10, 1, 6, 1)::anomalies);
    }

    private static void boundIsAtLeastTheFloor() {
        sentence = "but at least the floor, 0 to 1000";
        SeriesWatcher x = Watchers.bound(Watchers.of(0, 5, 10), 200, 9);
        due("bound(): the floor is lower by one", 10, x::bound);
        x.setBound(200, 10);
        due("bound(): the floor is the same", 10, x::bound);
        x.setBound(200, 11);
        due("bound(): the floor is higher by one", 11, x::bound);
        x.setBound(200, 1000);
        due("bound(): the highest floor", 1000, x::bound);
        x.setBound(200, 0);
        due("bound(): the lowest floor", 10, x::bound);
        SeriesWatcher zero = Watchers.bound(Watchers.runs(8, 60), 2000, 0);
        due("bound(): no deviation, no floor", 0, zero::bound);
        SeriesWatcher rounded = Watchers.bound(Watchers.of(0, 1, 2), 199, 1);
        due("bound(): as high as the floor once rounded", 1, rounded::bound);
    }

    private static void verdictAtTheBound() {
        sentence = "1 if its residual is above the bound, 2 if it is below 0 less the bound, and 0 if neither";
        SeriesWatcher x = Watchers.of(10, 10, 10, 10, 10, 10, 10, 10, 10);
        x.setBound(100, 1000);
        x.correct(4, 1010);
        due("verdict(4), at the bound", 0, () -> x.verdict(4));
        due("anomalies(), at the bound", 0, x::anomalies);
        x.correct(4, 1011);
        due("verdict(4), above it by one", 1, () -> x.verdict(4));
        due("anomalies(), above it by one", 1, x::anomalies);
        x.correct(4, -990);
        due("verdict(4), at 0 less the bound", 0, () -> x.verdict(4));
        x.correct(4, -991);
        due("verdict(4), below it by one", 2, () -> x.verdict(4));
        due("anomalies(), below it by one", 1, x::anomalies);
    }

    private static void verdictWithABoundOf0() {
        sentence = "the verdict where the bound is 0";
        SeriesWatcher x = Watchers.bound(Watchers.of(10, 10, 11, 9, 10, 10, 10), 100, 0);
        due("bound()", 0, x::bound);
        due("verdict(0)", 0, () -> x.verdict(0));
        due("verdict(2)", 1, () -> x.verdict(2));
        due("verdict(3)", 2, () -> x.verdict(3));
        due("anomalies()", 2, x::anomalies);
        due("judge(10)", 0, () -> x.judge(10));
        due("judge(11)", 1, () -> x.judge(11));
        due("judge(9)", 2, () -> x.judge(9));
    }

    private static void verdictOfAHoliday() {
        sentence = "The verdict on a value is 3 if it is a holiday";
        SeriesWatcher x = Watchers.holidays(Watchers.of(10000, 5, 5, 5, -10000), 0, 1);
        Watchers.holidays(x, 4, 5);
        due("verdict(0), far above", 3, () -> x.verdict(0));
        due("verdict(4), far below", 3, () -> x.verdict(4));
        due("verdict(2)", 0, () -> x.verdict(2));
        due("anomalies()", 0, x::anomalies);
        Watchers.holidays(x, 2, 3);
        due("verdict(2), neither above nor below", 3, () -> x.verdict(2));
        x.setHoliday(4, false);
        due("verdict(4), no holiday any more", 2, () -> x.verdict(4));
        x.setHoliday(0, false);
        x.setHoliday(4, true);
        due("verdict(0), no holiday any more", 1, () -> x.verdict(0));
    }

    private static SeriesWatcher upTo(int last) {
        SeriesWatcher x = new SeriesWatcher();
        for (int value = 1; value <= last; value++) {
            x.add(value);
        }
        return x;
    }
}
