/**
 * A watcher of a series of whole numbers: it tells what is normal of them (base, seasons, levels) and
 * which values are beyond their bounds.
 */
public final class SeriesWatcher {
    private static final int MOST_VALUES = 60;
    private static final int HIGHEST_VALUE = 10000;
    private static final int LONGEST_SEASON = 12;
    private static final int HIGHEST_LEAST_LENGTH = 10;
    private static final int HIGHEST_PENALTY = 100000;
    private static final int LOWEST_FACTOR = 100;
    private static final int HIGHEST_FACTOR = 2000;
    private static final int HIGHEST_FLOOR = 1000;
    private static final int MOST_VALUES_TRIED = 14;

    private static final int NORMAL = 0;
    private static final int TOO_HIGH = 1;
    private static final int TOO_LOW = 2;
    private static final int HOLIDAY = 3;

    private final Series series = new Series();
    private final Seasons seasons = new Seasons(series);
    private final Segments division = new Segments(series, seasons);
    private final Trial trial = new Trial(division);
    private final SortedRow deviations = new SortedRow();

    private int boundFactor = 300;
    private int boundFloor = 1;

    // What was found stays good until a value or a setting changes; finding it anew at each call would be
    // the same answers for far more work.
    private boolean seasonsFound = false;
    private boolean segmentsFound = false;

    public SeriesWatcher() {
    }

    // ---- values

    public int add(int value) throws IllegalArgumentException, IllegalStateException {
        requireValue(value);
        requireRoomFor(1);
        int number = series.count();
        series.append(value);
        forgetSeasons();
        return number;
    }

    public int addMany(int value, int times) throws IllegalArgumentException, IllegalStateException {
        requireValue(value);
        requireBetween(times, 1, MOST_VALUES);
        requireRoomFor(times);
        for (int i = 0; i < times; i++) {
            series.append(value);
        }
        forgetSeasons();
        return series.count();
    }

    public int correct(int k, int value) throws IndexOutOfBoundsException, IllegalArgumentException {
        requireNumber(k);
        requireValue(value);
        int before = series.numberAt(k);
        series.replace(k, value);
        forgetSeasons();
        return before;
    }

    public boolean setHoliday(int k, boolean holiday) throws IndexOutOfBoundsException {
        requireNumber(k);
        boolean before = series.isHoliday(k);
        series.markHoliday(k, holiday);
        forgetSeasons();
        return before;
    }

    public int drop(int many) throws IllegalArgumentException {
        requireBetween(many, 0, series.count());
        series.removeOldest(many);
        forgetSeasons();
        return series.count();
    }

    // ---- settings

    public int setSeason(int length) throws IllegalArgumentException {
        requireBetween(length, 1, LONGEST_SEASON);
        int before = seasons.length();
        seasons.changeLength(length);
        forgetSeasons();
        return before;
    }

    public void setCuts(int least, int penalty) throws IllegalArgumentException {
        requireBetween(least, 1, HIGHEST_LEAST_LENGTH);
        requireBetween(penalty, 0, HIGHEST_PENALTY);
        division.changeCuts(least, penalty);
        segmentsFound = false;
    }

    public void setBound(int factor, int floor) throws IllegalArgumentException {
        requireBetween(factor, LOWEST_FACTOR, HIGHEST_FACTOR);
        requireBetween(floor, 0, HIGHEST_FLOOR);
        boundFactor = factor;
        boundFloor = floor;
    }

    // ---- what there is; nothing from here on changes anything

    public int size() {
        return series.count();
    }

    public int value(int k) throws IndexOutOfBoundsException {
        requireNumber(k);
        return series.numberAt(k);
    }

    // ---- seasons

    public int base() {
        findSeasons();
        return seasons.middleOfAll();
    }

    public int season(int phase) throws IndexOutOfBoundsException {
        requireIndex(phase, 0, seasons.length());
        findSeasons();
        return seasons.ofPhase(phase);
    }

    public int adjusted(int k) throws IndexOutOfBoundsException {
        requireNumber(k);
        findSeasons();
        return seasons.adjustedAt(k);
    }

    // ---- segments

    public int segments() {
        findSegments();
        return division.howMany();
    }

    public int startOf(int segment) throws IndexOutOfBoundsException {
        findSegments();
        requireIndex(segment, 0, division.howMany());
        return division.startAt(segment);
    }

    public int levelOf(int segment) throws IndexOutOfBoundsException {
        findSegments();
        requireIndex(segment, 0, division.howMany());
        return division.levelAt(segment);
    }

    public int cost() {
        findSegments();
        return division.wholeCost();
    }

    public int costUncut() {
        findSeasons();
        return division.costBetween(0, series.count());
    }

    public int costCutAt(int cut) throws IndexOutOfBoundsException, IllegalArgumentException {
        int count = series.count();
        requireIndex(cut, 1, count);
        if (cut < division.leastLength() || count - cut < division.leastLength()) {
            throw new IllegalArgumentException("a segment would be shorter than the least length");
        }
        findSeasons();
        return division.costBetween(0, cut) + division.costBetween(cut, count) + division.penaltyOfCut();
    }

    public int leastCost() throws IllegalStateException {
        if (series.count() > MOST_VALUES_TRIED) {
            throw new IllegalStateException("too many values to try every division");
        }
        findSeasons();
        return trial.leastOfAll(series.count());
    }

    // ---- bounds and verdicts

    public int residual(int k) throws IndexOutOfBoundsException {
        requireNumber(k);
        findSegments();
        return residualAt(k);
    }

    public int deviation() {
        findSegments();
        return medianDeviation();
    }

    public int bound() {
        findSegments();
        return boundOfNow();
    }

    public int verdict(int k) throws IndexOutOfBoundsException {
        requireNumber(k);
        findSegments();
        return verdictWithin(k, boundOfNow());
    }

    public int anomalies() {
        findSegments();
        int bound = boundOfNow();
        int found = 0;
        for (int k = 0; k < series.count(); k++) {
            int verdict = verdictWithin(k, bound);
            if (verdict == TOO_HIGH || verdict == TOO_LOW) {
                found++;
            }
        }
        return found;
    }

    public int expected() {
        findSegments();
        return expectedNext();
    }

    public int judge(int value) {
        findSegments();
        // In long, as the difference of two ints may be beyond an int.
        return sideOf((long) value - expectedNext(), boundOfNow());
    }

    // What the calls above share.

    private static void requireBetween(int number, int lowest, int highest) {
        if (number < lowest || number > highest) {
            throw new IllegalArgumentException("out of range");
        }
    }

    private static void requireValue(int value) {
        requireBetween(value, -HIGHEST_VALUE, HIGHEST_VALUE);
    }

    private static void requireIndex(int index, int first, int end) {
        if (index < first || index >= end) {
            throw new IndexOutOfBoundsException("there is none of this number");
        }
    }

    private void requireNumber(int k) {
        requireIndex(k, 0, series.count());
    }

    private void requireRoomFor(int times) {
        if (series.count() + times > MOST_VALUES) {
            throw new IllegalStateException("there would be too many values");
        }
    }

    private void forgetSeasons() {
        seasonsFound = false;
        // The segments are those of the adjusted values, which the seasons make.
        segmentsFound = false;
    }

    private void findSeasons() {
        if (!seasonsFound) {
            seasons.find();
            seasonsFound = true;
        }
    }

    private void findSegments() {
        findSeasons();
        if (!segmentsFound) {
            division.findCuts();
            division.followCuts();
            segmentsFound = true;
        }
    }

    // From here on the segments are found already: each call of the face has them found once, first.

    private int residualAt(int k) {
        return seasons.adjustedAt(k) - division.levelAtValue(k);
    }

    private int medianDeviation() {
        deviations.clear();
        for (int k = 0; k < series.count(); k++) {
            if (!series.isHoliday(k)) {
                deviations.insert(Math.abs(residualAt(k)));
            }
        }
        return deviations.median();
    }

    private int boundOfNow() {
        return Math.max(boundFactor * medianDeviation() / 100, boundFloor);
    }

    private int expectedNext() {
        return division.lastLevel() + seasons.ofPhase(seasons.phaseOf(series.count()));
    }

    private int verdictWithin(int k, int bound) {
        return series.isHoliday(k) ? HOLIDAY : sideOf(residualAt(k), bound);
    }

    private static int sideOf(long difference, int bound) {
        if (difference > bound) {
            return TOO_HIGH;
        }
        return difference < -bound ? TOO_LOW : NORMAL;
    }

    /** A row of numbers whose every index is tested here, so that no caller can make the machine throw. */
    private static final class Row {
        private final int[] numbers = new int[MOST_VALUES + 1];

        int at(int index) {
            return index >= 0 && index < numbers.length ? numbers[index] : 0;
        }

        void put(int index, int number) {
            if (index >= 0 && index < numbers.length) {
                numbers[index] = number;
            }
        }
    }

    /** Numbers kept in order, with their median and the sum of their differences from it. */
    private static final class SortedRow {
        private final int[] numbers = new int[MOST_VALUES];
        private int held = 0;
        private int spread = 0;

        void clear() {
            held = 0;
            spread = 0;
        }

        // The sum of differences is the same from every point between the two middle numbers, and a number
        // more leaves a median among them or is the median itself: so the sum grows by just the way from
        // the number to the middle, and needs no adding up anew.
        void insert(int number) {
            if (held >= numbers.length) {
                return;
            }
            if (held > 0) {
                int lower = numbers[(held - 1) / 2];
                int upper = numbers[held / 2];
                spread += number < lower ? lower - number : number > upper ? number - upper : 0;
            }
            int place = held;
            while (place > 0 && numbers[place - 1] > number) {
                numbers[place] = numbers[place - 1];
                place--;
            }
            numbers[place] = number;
            held++;
        }

        int median() {
            return held == 0 ? 0 : numbers[(held - 1) / 2];
        }

        /** The sum of the differences of all numbers from their median, without their signs. */
        int spreadAroundMedian() {
            return spread;
        }
    }

    /** The values and which of them are holidays. */
    private static final class Series {
        private final int[] numbers = new int[MOST_VALUES];
        private final boolean[] holidays = new boolean[MOST_VALUES];
        private int count = 0;

        int count() {
            return count;
        }

        int numberAt(int k) {
            return has(k) ? numbers[k] : 0;
        }

        boolean isHoliday(int k) {
            return has(k) && holidays[k];
        }

        void append(int number) {
            if (count < numbers.length) {
                numbers[count] = number;
                holidays[count] = false;
                count++;
            }
        }

        void replace(int k, int number) {
            if (has(k)) {
                numbers[k] = number;
            }
        }

        void markHoliday(int k, boolean holiday) {
            if (has(k)) {
                holidays[k] = holiday;
            }
        }

        void removeOldest(int many) {
            if (many < 0 || many > count) {
                return;
            }
            count -= many;
            for (int k = 0; k < count; k++) {
                numbers[k] = numbers[k + many];
                holidays[k] = holidays[k + many];
            }
        }

        private boolean has(int k) {
            return k >= 0 && k < count;
        }
    }

    /** The base, the season of each phase, and the values less their seasons. */
    private static final class Seasons {
        private final Series series;
        private final Row ofPhases = new Row();
        private final Row adjustedValues = new Row();
        private final SortedRow sorted = new SortedRow();
        private int length = 1;
        private int middleOfAll = 0;

        Seasons(Series series) {
            this.series = series;
        }

        int length() {
            return length;
        }

        void changeLength(int newLength) {
            length = newLength;
        }

        int phaseOf(int k) {
            return length < 1 ? 0 : k % length;
        }

        void find() {
            findMiddleOfAll();
            for (int phase = 0; phase < length; phase++) {
                findSeason(phase);
            }
            for (int k = 0; k < series.count(); k++) {
                adjustedValues.put(k, series.numberAt(k) - ofPhases.at(phaseOf(k)));
            }
        }

        int middleOfAll() {
            return middleOfAll;
        }

        int ofPhase(int phase) {
            return ofPhases.at(phase);
        }

        int adjustedAt(int k) {
            return adjustedValues.at(k);
        }

        private void findMiddleOfAll() {
            sorted.clear();
            for (int k = 0; k < series.count(); k++) {
                if (!series.isHoliday(k)) {
                    sorted.insert(series.numberAt(k));
                }
            }
            middleOfAll = sorted.median();
        }

        private void findSeason(int phase) {
            sorted.clear();
            for (int k = 0; k < series.count(); k++) {
                if (phaseOf(k) == phase && !series.isHoliday(k)) {
                    sorted.insert(series.numberAt(k) - middleOfAll);
                }
            }
            ofPhases.put(phase, sorted.median());
        }
    }

    /** The division of the values into segments. */
    private static final class Segments {
        private final Series series;
        private final Seasons seasons;
        private final SortedRow sorted = new SortedRow();
        private int leastLength = 2;
        private int penalty = 100;

        // Of the best division of the values from an index on: its cost, its cuts, and the end of its
        // first segment.
        private final Row restCosts = new Row();
        private final Row restCuts = new Row();
        private final Row firstEnds = new Row();

        private final Row starts = new Row();
        private final Row levels = new Row();
        private final Row levelsOfValues = new Row();
        private int found = 0;

        Segments(Series series, Seasons seasons) {
            this.series = series;
            this.seasons = seasons;
        }

        int leastLength() {
            return leastLength;
        }

        int penaltyOfCut() {
            return penalty;
        }

        void changeCuts(int newLeast, int newPenalty) {
            leastLength = newLeast;
            penalty = newPenalty;
        }

        int howMany() {
            return found;
        }

        int startAt(int segment) {
            return starts.at(segment);
        }

        int levelAt(int segment) {
            return levels.at(segment);
        }

        int lastLevel() {
            return found == 0 ? 0 : levels.at(found - 1);
        }

        int levelAtValue(int k) {
            return levelsOfValues.at(k);
        }

        int wholeCost() {
            return found == 0 ? 0 : restCosts.at(0);
        }

        /** The cost of the values from start to before end, as one segment. */
        int costBetween(int start, int end) {
            sortBetween(start, end);
            return sorted.spreadAroundMedian();
        }

        void findCuts() {
            int count = series.count();
            // From the last start back to the first, as each needs the best divisions of what follows it.
            for (int start = count - 1; start >= 0; start--) {
                findBestFrom(start, count);
            }
        }

        /** Takes down the segments of the best division, once its cuts are found. */
        void followCuts() {
            int count = series.count();
            int start = 0;
            found = 0;
            while (start < count && found < MOST_VALUES) {
                int end = firstEnds.at(start);
                sortBetween(start, end);
                int level = sorted.median();
                starts.put(found, start);
                levels.put(found, level);
                for (int k = start; k < end; k++) {
                    levelsOfValues.put(k, level);
                }
                start = end;
                found++;
            }
        }

        private void findBestFrom(int start, int count) {
            sorted.clear();
            takeAsBest(start, count, Integer.MAX_VALUE, 0);
            for (int end = start + 1; end < count; end++) {
                sortIn(end - 1);
                if (end - start >= leastLength && count - end >= leastLength) {
                    consider(start, end, sorted.spreadAroundMedian() + penalty + restCosts.at(end),
                            restCuts.at(end) + 1);
                }
            }
            sortIn(count - 1);
            consider(start, count, sorted.spreadAroundMedian(), 0);
        }

        // Ends are offered from the lowest on, and one as good as the best does not replace it: so of equals
        // the one whose cuts come first stays.
        private void consider(int start, int end, int cost, int cuts) {
            int best = restCosts.at(start);
            if (cost < best || cost == best && cuts < restCuts.at(start)) {
                takeAsBest(start, end, cost, cuts);
            }
        }

        private void takeAsBest(int start, int end, int cost, int cuts) {
            restCosts.put(start, cost);
            restCuts.put(start, cuts);
            firstEnds.put(start, end);
        }

        private void sortBetween(int start, int end) {
            sorted.clear();
            for (int k = start; k < end; k++) {
                sortIn(k);
            }
        }

        private void sortIn(int k) {
            if (!series.isHoliday(k)) {
                sorted.insert(seasons.adjustedAt(k));
            }
        }
    }

    /** Tries every division of a few values, each on its own, as a measure of what the segments cost. */
    private static final class Trial {
        private static final int ENDS = MOST_VALUES_TRIED + 1;

        private final Segments division;
        private final int[] costs = new int[MOST_VALUES_TRIED * ENDS];

        Trial(Segments division) {
            this.division = division;
        }

        int leastOfAll(int count) {
            if (count < 1 || count > MOST_VALUES_TRIED) {
                return 0;
            }
            for (int start = 0; start < count; start++) {
                for (int end = start + 1; end <= count; end++) {
                    costs[start * ENDS + end] = division.costBetween(start, end);
                }
            }
            return leastFrom(costs, count, division.leastLength(), division.penaltyOfCut(), 0, 0);
        }

        /** The least cost of the values from start on, where depth cuts have been made before. */
        private static int leastFrom(int[] costs, int count, int shortest, int penalty, int start, int depth) {
            if (start < 0 || start >= count || count > MOST_VALUES_TRIED || shortest < 1 || depth > count) {
                return 0;
            }
            int row = start * ENDS;
            int least = costs[row + count];
            for (int cut = start + shortest; cut <= count - shortest; cut++) {
                int cost = costs[row + cut] + penalty
                        + leastFrom(costs, count, shortest, penalty, cut, depth + 1);
                least = Math.min(least, cost);
            }
            return least;
        }
    }
}
