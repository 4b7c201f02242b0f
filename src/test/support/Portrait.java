import java.util.TreeSet;
import java.util.function.IntFunction;

/** What a watcher answers to its questions, as one text, to be compared with a later or another one. */
final class Portrait {
    private final SeriesWatcher x;
    private final int count;
    private final int segments;
    private final StringBuilder told = new StringBuilder();

    private Portrait(SeriesWatcher x) {
        this.x = x;
        count = x.size();
        segments = x.segments();
    }

    /** Each question, of each value and each cut: some 410 calls where there are 60 values. */
    static String full(SeriesWatcher x) {
        Portrait portrait = new Portrait(x);
        portrait.ofAll();
        for (int k = -1; k <= portrait.count; k++) {
            portrait.ofValue(k);
            portrait.one("costCutAt", k, x::costCutAt);
        }
        for (int segment = 0; segment <= portrait.segments; segment++) {
            portrait.one("levelOf", segment, x::levelOf);
        }
        return portrait.told.toString();
    }

    /** Each question, of the values and cuts at the edges alone: at most some 90 calls. */
    static String brief(SeriesWatcher x) {
        Portrait portrait = new Portrait(x);
        int count = portrait.count;
        portrait.ofAll();
        for (int k : numbers(-1, 0, 1, count / 2, count - 2, count - 1, count)) {
            portrait.ofValue(k);
        }
        for (int cut : numbers(0, 1, 2, 9, 10, count / 2, count - 10, count - 9, count - 2, count - 1, count)) {
            portrait.one("costCutAt", cut, x::costCutAt);
        }
        return portrait.told.toString();
    }

    private static TreeSet<Integer> numbers(int... some) {
        TreeSet<Integer> numbers = new TreeSet<>();
        for (int number : some) {
            numbers.add(number);
        }
        return numbers;
    }

    private void ofAll() {
        told.append("size ").append(count).append(" segments ").append(segments);
        told.append(" base ").append(x.base()).append(" cost ").append(x.cost());
        told.append(" costUncut ").append(x.costUncut()).append(" leastCost ").append(Checks.outcome(x::leastCost));
        told.append(" deviation ").append(x.deviation()).append(" bound ").append(x.bound());
        told.append(" anomalies ").append(x.anomalies()).append(" expected ").append(x.expected());
        for (int phase = -1; phase <= 12; phase++) {
            one("season", phase, x::season);
        }
        for (int segment : numbers(-1, 0, 1, segments - 1, segments)) {
            one("startOf", segment, x::startOf);
            one("levelOf", segment, x::levelOf);
        }
        for (int side = -1; side <= 1; side += 2) {
            one("judge", x.expected() + side * x.bound(), x::judge);
            one("judge", x.expected() + side * (x.bound() + 1), x::judge);
        }
    }

    private void ofValue(int k) {
        one("value", k, x::value);
        one("adjusted", k, x::adjusted);
        one("residual", k, x::residual);
        one("verdict", k, x::verdict);
    }

    private void one(String name, int argument, IntFunction<Integer> question) {
        told.append(' ').append(name).append('(').append(argument).append(") ");
        told.append(Checks.outcome(() -> question.apply(argument)));
    }
}
