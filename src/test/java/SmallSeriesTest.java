import java.lang.reflect.Method;
import java.util.Arrays;

/**
 * Every series of up to 4 values, each of them one of three and a holiday or not, under each of 27 settings:
 * every question must be answered as NaiveWatcher answers it. So few values, and so alike, are often divided
 * as cheaply in several ways, and have phases and segments of holidays alone.
 */
public final class SmallSeriesTest {
    private static final int MOST_VALUES = 4;
    private static final int[] NUMBERS = {0, 1, 3};

    private final SeriesWatcher watcher = new SeriesWatcher();
    private final NaiveWatcher naive = new NaiveWatcher();
    private final String state;

    private SmallSeriesTest(int[] kinds, int length, int least, int penalty) {
        state = "values " + Arrays.toString(kinds) + " (from 3 on holidays) length " + length + " least " + least
                + " penalty " + penalty + ": ";
        for (int kind : kinds) {
            add(NUMBERS[kind % NUMBERS.length], kind >= NUMBERS.length);
        }
        watcher.setSeason(length);
        naive.setSeason(length);
        watcher.setCuts(least, penalty);
        naive.setCuts(least, penalty);
        watcher.setBound(100, 0);
        naive.setBound(100, 0);
    }

    public static void main(String[] args) {
        for (int count = 0; count <= MOST_VALUES; count++) {
            int series = 1;
            for (int i = 0; i < count; i++) {
                series *= 2 * NUMBERS.length;
            }
            for (int number = 0; number < series; number++) {
                underEachSetting(kinds(number, count));
            }
        }
        Checks.end("SmallSeriesTest");
    }

    /** The digits of a number, in the base of the kinds of values that there are. */
    private static int[] kinds(int number, int count) {
        int[] kinds = new int[count];
        int rest = number;
        for (int i = 0; i < count; i++) {
            kinds[i] = rest % (2 * NUMBERS.length);
            rest /= 2 * NUMBERS.length;
        }
        return kinds;
    }

    private static void underEachSetting(int[] kinds) {
        for (int length = 1; length <= 3; length++) {
            for (int least = 1; least <= 3; least++) {
                for (int penalty = 0; penalty <= 2 && !Checks.tooManyWrong(); penalty++) {
                    new SmallSeriesTest(kinds, length, least, penalty).askEverything();
                }
            }
        }
    }

    private void add(int value, boolean holiday) {
        int number = watcher.add(value);
        naive.add(value);
        watcher.setHoliday(number, holiday);
        naive.setHoliday(number, holiday);
    }

    private void askEverything() {
        for (Method question : Calls.questions()) {
            if (question.getParameterCount() == 0) {
                ask(question);
            } else {
                for (int argument = -1; argument <= MOST_VALUES; argument++) {
                    ask(question, argument);
                }
            }
        }
    }

    private void ask(Method question, Object... arguments) {
        String got = Calls.answer(watcher, question, arguments);
        String due = Calls.answer(naive, question, arguments);
        Checks.same(state + question.getName() + Arrays.toString(arguments), got, due);
    }
}
