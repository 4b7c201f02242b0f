import java.util.ArrayList;
import java.util.Collections;
import java.util.List;

/**
 * The document told once more, as near to its words as can be and with no eye to speed: the measure for
 * the random runs of RandomRunsTest.
 */
final class NaiveWatcher {
    private record Value(int number, boolean holiday) {
    }

    private record Division(int cost, List<Integer> cuts) implements Comparable<Division> {
        @Override
        public int compareTo(Division other) {
            if (cost != other.cost) {
                return Integer.compare(cost, other.cost);
            }
            if (cuts.size() != other.cuts.size()) {
                return Integer.compare(cuts.size(), other.cuts.size());
            }
            for (int i = 0; i < cuts.size(); i++) {
                if (!cuts.get(i).equals(other.cuts.get(i))) {
                    return Integer.compare(cuts.get(i), other.cuts.get(i));
                }
            }
            return 0;
        }
    }

    /** Up to here every division is made and compared; beyond it the best ones are put together. */
    private static final int MOST_ENUMERATED = 10;

    private List<Value> values = new ArrayList<>();
    private int length = 1;
    private int least = 2;
    private int penalty = 100;
    private int factor = 300;
    private int floor = 1;

    // Both hang on the values and settings alone; null where something has changed since.
    private int[] seasons = null;
    private Division best = null;

    public int add(int value) {
        illegalIf(value < -10000 || value > 10000);
        fullIf(values.size() >= 60);
        values.add(new Value(value, false));
        changed();
        return values.size() - 1;
    }

    public int addMany(int value, int times) {
        illegalIf(value < -10000 || value > 10000 || times < 1 || times > 60);
        fullIf(values.size() + times > 60);
        for (int i = 0; i < times; i++) {
            values.add(new Value(value, false));
        }
        changed();
        return values.size();
    }

    public int correct(int k, int value) {
        noneIf(k < 0 || k >= values.size());
        illegalIf(value < -10000 || value > 10000);
        Value before = values.set(k, new Value(value, values.get(k).holiday()));
        changed();
        return before.number();
    }

    public boolean setHoliday(int k, boolean holiday) {
        noneIf(k < 0 || k >= values.size());
        Value before = values.set(k, new Value(values.get(k).number(), holiday));
        changed();
        return before.holiday();
    }

    public int drop(int many) {
        illegalIf(many < 0 || many > values.size());
        values = new ArrayList<>(values.subList(many, values.size()));
        changed();
        return values.size();
    }

    public int setSeason(int newLength) {
        illegalIf(newLength < 1 || newLength > 12);
        int before = length;
        length = newLength;
        changed();
        return before;
    }

    public void setCuts(int newLeast, int newPenalty) {
        illegalIf(newLeast < 1 || newLeast > 10 || newPenalty < 0 || newPenalty > 100000);
        least = newLeast;
        penalty = newPenalty;
        changed();
    }

    public void setBound(int newFactor, int newFloor) {
        illegalIf(newFactor < 100 || newFactor > 2000 || newFloor < 0 || newFloor > 1000);
        factor = newFactor;
        floor = newFloor;
    }

    public int size() {
        return values.size();
    }

    public int value(int k) {
        noneIf(k < 0 || k >= values.size());
        return values.get(k).number();
    }

    public int base() {
        List<Integer> working = new ArrayList<>();
        for (Value value : values) {
            if (!value.holiday()) {
                working.add(value.number());
            }
        }
        return median(working);
    }

    public int season(int phase) {
        noneIf(phase < 0 || phase >= length);
        return seasons()[phase];
    }

    public int adjusted(int k) {
        noneIf(k < 0 || k >= values.size());
        return values.get(k).number() - seasons()[k % length];
    }

    public int segments() {
        return values.isEmpty() ? 0 : best().cuts().size() + 1;
    }

    public int startOf(int segment) {
        noneIf(segment < 0 || segment >= segments());
        return segment == 0 ? 0 : best().cuts().get(segment - 1);
    }

    public int levelOf(int segment) {
        noneIf(segment < 0 || segment >= segments());
        return median(adjustedWorking(startOf(segment), endOf(segment)));
    }

    public int cost() {
        return best().cost();
    }

    public int costUncut() {
        return division(List.of()).cost();
    }

    public int costCutAt(int cut) {
        noneIf(cut < 1 || cut > values.size() - 1);
        illegalIf(cut < least || values.size() - cut < least);
        return division(List.of(cut)).cost();
    }

    public int leastCost() {
        fullIf(values.size() > 14);
        return values.isEmpty() ? 0 : Collections.min(allDivisions()).cost();
    }

    public int residual(int k) {
        noneIf(k < 0 || k >= values.size());
        for (int segment = 0; segment < segments(); segment++) {
            if (k < endOf(segment)) {
                return adjusted(k) - levelOf(segment);
            }
        }
        throw new AssertionError("a value in no segment");
    }

    public int deviation() {
        List<Integer> deviations = new ArrayList<>();
        for (int k = 0; k < values.size(); k++) {
            if (!values.get(k).holiday()) {
                deviations.add(Math.abs(residual(k)));
            }
        }
        return median(deviations);
    }

    public int bound() {
        return (int) Math.max(floor, Math.floor((long) factor * deviation() / 100.0));
    }

    public int verdict(int k) {
        noneIf(k < 0 || k >= values.size());
        if (values.get(k).holiday()) {
            return 3;
        }
        return residual(k) > bound() ? 1 : residual(k) < 0 - bound() ? 2 : 0;
    }

    public int anomalies() {
        int found = 0;
        for (int k = 0; k < values.size(); k++) {
            if (verdict(k) == 1 || verdict(k) == 2) {
                found++;
            }
        }
        return found;
    }

    public int expected() {
        int level = values.isEmpty() ? 0 : levelOf(segments() - 1);
        return level + seasons()[values.size() % length];
    }

    public int judge(int value) {
        long difference = (long) value - (long) expected();
        return difference > bound() ? 1 : difference < 0 - bound() ? 2 : 0;
    }

    private static void illegalIf(boolean wrong) {
        if (wrong) {
            throw new IllegalArgumentException();
        }
    }

    private static void noneIf(boolean wrong) {
        if (wrong) {
            throw new IndexOutOfBoundsException();
        }
    }

    private static void fullIf(boolean wrong) {
        if (wrong) {
            throw new IllegalStateException();
        }
    }

    private void changed() {
        seasons = null;
        best = null;
    }

    private static int median(List<Integer> numbers) {
        List<Integer> sorted = new ArrayList<>(numbers);
        Collections.sort(sorted);
        return sorted.isEmpty() ? 0 : sorted.get((sorted.size() - 1) / 2);
    }

    private int[] seasons() {
        if (seasons == null) {
            seasons = new int[length];
            for (int phase = 0; phase < length; phase++) {
                List<Integer> ofPhase = new ArrayList<>();
                for (int k = phase; k < values.size(); k += length) {
                    if (!values.get(k).holiday()) {
                        ofPhase.add(values.get(k).number() - base());
                    }
                }
                seasons[phase] = median(ofPhase);
            }
        }
        return seasons;
    }

    private int endOf(int segment) {
        return segment + 1 < segments() ? startOf(segment + 1) : values.size();
    }

    private List<Integer> adjustedWorking(int start, int end) {
        List<Integer> working = new ArrayList<>();
        for (int k = start; k < end; k++) {
            if (!values.get(k).holiday()) {
                working.add(adjusted(k));
            }
        }
        return working;
    }

    private int segmentCost(int start, int end) {
        List<Integer> working = adjustedWorking(start, end);
        int level = median(working);
        return working.stream().mapToInt(number -> Math.abs(number - level)).sum();
    }

    private Division division(List<Integer> cuts) {
        int cost = penalty * cuts.size();
        int start = 0;
        for (int cut : cuts) {
            cost += segmentCost(start, cut);
            start = cut;
        }
        return new Division(cost + segmentCost(start, values.size()), cuts);
    }

    private Division best() {
        if (best == null) {
            best = values.size() <= MOST_ENUMERATED ? Collections.min(allDivisions()) : bestPutTogether();
        }
        return best;
    }

    private List<Division> allDivisions() {
        List<Division> all = new ArrayList<>();
        all.add(division(List.of()));
        int places = Math.max(0, values.size() - 1);
        for (int set = 1; set < 1 << places; set++) {
            List<Integer> cuts = new ArrayList<>();
            for (int place = 0; place < places; place++) {
                if ((set >> place & 1) == 1) {
                    cuts.add(place + 1);
                }
            }
            if (longEnough(cuts)) {
                all.add(division(cuts));
            }
        }
        return all;
    }

    private boolean longEnough(List<Integer> cuts) {
        int start = 0;
        for (int cut : cuts) {
            if (cut - start < least) {
                return false;
            }
            start = cut;
        }
        return values.size() - start >= least;
    }

    /** The best divisions of the first values, of ever more of them, by their last cuts. */
    private Division bestPutTogether() {
        Division[] ofFirst = new Division[values.size() + 1];
        for (int end = 1; end <= values.size(); end++) {
            if (end < least && end < values.size()) {
                continue;
            }
            ofFirst[end] = new Division(segmentCost(0, end), List.of());
            for (int cut = least; cut <= end - least; cut++) {
                List<Integer> cuts = new ArrayList<>(ofFirst[cut].cuts());
                cuts.add(cut);
                Division tried = new Division(ofFirst[cut].cost() + penalty + segmentCost(cut, end), cuts);
                if (tried.compareTo(ofFirst[end]) < 0) {
                    ofFirst[end] = tried;
                }
            }
        }
        return ofFirst[values.size()];
    }
}
