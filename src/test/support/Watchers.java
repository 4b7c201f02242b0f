/** Makes watchers for tests. */
final class Watchers {
    private Watchers() {
    }

    static SeriesWatcher of(int... values) {
        SeriesWatcher x = new SeriesWatcher();
        for (int value : values) {
            x.add(value);
        }
        return x;
    }

    /** A watcher of a value, so and so many of it, the next value, so and so many of that, .. */
    static SeriesWatcher runs(int... valuesAndTimes) {
        SeriesWatcher x = new SeriesWatcher();
        addRuns(x, valuesAndTimes);
        return x;
    }

    static void addRuns(SeriesWatcher x, int... valuesAndTimes) {
        for (int i = 0; i + 1 < valuesAndTimes.length; i += 2) {
            x.addMany(valuesAndTimes[i], valuesAndTimes[i + 1]);
        }
    }

    /** Makes the values from first to before end holidays. */
    static SeriesWatcher holidays(SeriesWatcher x, int first, int end) {
        for (int k = first; k < end; k++) {
            x.setHoliday(k, true);
        }
        return x;
    }

    static SeriesWatcher cuts(SeriesWatcher x, int least, int penalty) {
        x.setCuts(least, penalty);
        return x;
    }

    static SeriesWatcher season(SeriesWatcher x, int length) {
        x.setSeason(length);
        return x;
    }

    static SeriesWatcher bound(SeriesWatcher x, int factor, int floor) {
        x.setBound(factor, floor);
        return x;
    }

    /** The starts of all segments, as a text. */
    static String starts(SeriesWatcher x) {
        StringBuilder told = new StringBuilder();
        for (int segment = 0; segment < x.segments(); segment++) {
            told.append(segment == 0 ? "" : " ").append(x.startOf(segment));
        }
        return told.toString();
    }
}
