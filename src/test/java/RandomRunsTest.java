import java.lang.reflect.Method;
import java.util.Arrays;
import java.util.List;
import java.util.Random;

/**
 * Runs of random calls, each at most 512 long, whose every answer must be the one of NaiveWatcher. The
 * seed is the run's number, so that a run that fails fails again.
 */
public final class RandomRunsTest {
    private static final int RUNS = 1500;
    private static final int MOST_CALLS = 512;
    private static final List<Method> QUESTIONS = Calls.questions();
    private static final List<Method> CHANGES = Calls.changes();

    private final Random random;
    private final SeriesWatcher watcher = new SeriesWatcher();
    private final NaiveWatcher naive = new NaiveWatcher();
    private final int run;
    private final int highest;
    private final int highestPenalty;
    private final int mostWanted;
    private final StringBuilder told = new StringBuilder();

    private RandomRunsTest(int run) {
        this.run = run;
        random = new Random(run);
        highest = pick(1, 2, 5, 30, 1000, 10000);
        highestPenalty = pick(0, 1, 3, 20, 500, 100000);
        mostWanted = pick(3, 8, 14, 15, 30, 60);
    }

    public static void main(String[] args) {
        for (int run = 0; run < RUNS && !Checks.tooManyWrong(); run++) {
            new RandomRunsTest(run).go();
        }
        Checks.end("RandomRunsTest");
    }

    private void go() {
        int calls = 50 + random.nextInt(MOST_CALLS - 49);
        int questionsOfTen = pick(3, 5, 8);
        for (int i = 0; i < calls && !Checks.tooManyWrong(); i++) {
            boolean asks = random.nextInt(10) < questionsOfTen;
            List<Method> methods = asks ? QUESTIONS : CHANGES;
            Method method = methods.get(random.nextInt(methods.size()));
            Object[] arguments = arguments(method);
            String name = method.getName() + Arrays.toString(arguments);
            told.append(name).append("; ");
            String due = Calls.answer(naive, method, arguments);
            String got = Calls.answer(watcher, method, arguments);
            Checks.same("run " + run + ": " + (got.equals(due) ? name : told), got, due);
        }
    }

    private Object[] arguments(Method method) {
        return switch (method.getName()) {
            case "add" -> new Object[] {value()};
            case "addMany" -> new Object[] {value(), times()};
            case "correct" -> new Object[] {number(), value()};
            case "setHoliday" -> new Object[] {number(), random.nextInt(3) > 0};
            case "drop" -> new Object[] {naive.size() > mostWanted ? naive.size() / 2 : near(0, 3)};
            case "setSeason" -> new Object[] {random.nextBoolean() ? near(1, 3) : near(1, 12)};
            case "setCuts" -> new Object[] {random.nextBoolean() ? near(1, 3) : near(1, 10), penalty()};
            case "setBound" -> new Object[] {random.nextBoolean() ? near(100, 300) : near(100, 2000),
                random.nextBoolean() ? near(0, 3) : near(0, 1000)};
            case "season" -> new Object[] {near(0, 11)};
            case "startOf", "levelOf" -> new Object[] {near(0, Math.max(0, naive.segments() - 1))};
            case "judge" -> new Object[] {judged()};
            default -> method.getParameterCount() == 0 ? new Object[0] : new Object[] {number()};
        };
    }

    private int pick(int... of) {
        return of[random.nextInt(of.length)];
    }

    /** A number from lowest to highest, and now and then one beside them, or far off. */
    private int near(int lowest, int highest) {
        int far = random.nextInt(40);
        if (far == 0) {
            return pick(lowest - 1, highest + 1);
        }
        if (far == 1) {
            return pick(Integer.MIN_VALUE, Integer.MAX_VALUE, -1, lowest, highest);
        }
        return lowest + random.nextInt(highest - lowest + 1);
    }

    private int number() {
        return near(0, Math.max(0, naive.size() - 1));
    }

    private int value() {
        if (random.nextInt(30) == 0) {
            return pick(-10001, -10000, 10000, 10001, Integer.MIN_VALUE, Integer.MAX_VALUE);
        }
        int wave = naive.size() / 7 % 2 == 0 ? 0 : highest;
        return Math.max(-10000, Math.min(10000, wave - highest / 2 + random.nextInt(highest + 1)));
    }

    private int times() {
        return random.nextInt(10) == 0 ? near(1, 60) : near(1, Math.max(1, mostWanted / 8));
    }

    private int penalty() {
        return random.nextInt(20) == 0 ? near(0, 100000) : random.nextInt(highestPenalty + 1);
    }

    private int judged() {
        int beyond = naive.expected() + pick(-1, 1) * naive.bound();
        return random.nextInt(10) == 0 ? near(-100000, 100000) : beyond + pick(-1, 0, 1);
    }
}
