import java.lang.reflect.InvocationTargetException;
import java.lang.reflect.Method;
import java.lang.reflect.Modifier;
import java.util.NoSuchElementException;

/**
 * Every call with every choice of extreme arguments, on a new, a begun and a full desk: nothing is ever thrown but the
 * NoSuchElementException of amount() and row(), and where that is due; each answer is one of those that can be.
 */
public final class ExtremesTest {
    private static final int[] EXTREMES = {Integer.MIN_VALUE, -1000, -999, -1, 0, 1, 6, 9, 10, 23, 24, 500, 999, 1000, 1999,
        99999, 999999, Integer.MAX_VALUE};
    /** So few that no desk gets more than 512 calls, with those that tell its story. */
    private static final int CALLS_OF_A_DESK = 400;
    private static final Twins.Story[] STORIES = {desk -> { }, Stories::begun, Stories::full};

    private final Twins.Story story;
    private final Method method;
    private final Object[] arguments;
    private WorksDesk desk;
    private int calls = 0;

    private ExtremesTest(Twins.Story story, Method method) {
        this.story = story;
        this.method = method;
        this.arguments = new Object[method.getParameterCount()];
    }

    public static void main(String[] args) throws IllegalAccessException {
        for (Method method : WorksDesk.class.getDeclaredMethods()) {
            if (Modifier.isPublic(method.getModifiers())) {
                for (Twins.Story story : STORIES) {
                    new ExtremesTest(story, method).choose(0);
                }
            }
        }
        Check.end("ExtremesTest");
    }

    private void choose(int argument) throws IllegalAccessException {
        if (argument == arguments.length) {
            call();
            return;
        }
        for (int extreme : EXTREMES) {
            boolean isLong = method.getParameterTypes()[argument] == long.class;
            arguments[argument] = isLong ? (Object) (extreme * 4294967297L) : (Object) extreme;
            choose(argument + 1);
        }
    }

    private void call() throws IllegalAccessException {
        if (calls % CALLS_OF_A_DESK == 0) {
            desk = new WorksDesk();
            story.tell(desk);
        }
        calls++;
        boolean throwing = isDueToThrow();
        try {
            Object answer = method.invoke(desk, arguments);
            Check.is(name() + " throws", false, throwing);
            Check.is(name() + " answers what can be: " + answer, canBe(answer), true);
        } catch (InvocationTargetException e) {
            Check.is(name() + " threw " + e.getCause(), throwing && e.getCause() instanceof NoSuchElementException, true);
        }
    }

    private boolean isDueToThrow() {
        if (method.getName().equals("amount")) {
            return outside((Integer) arguments[0], 23) || outside((Integer) arguments[1], 14);
        }
        return method.getName().equals("row") && outside((Integer) arguments[0], desk.count(6) - 1);
    }

    private static boolean outside(int v, int most) {
        return v < 0 || v > most;
    }

    /** Below 0 an int is a refusal, -1 to -3, but of bill(), with five signs here, and of alters(), a quantity. */
    private boolean canBe(Object answer) {
        if (!(answer instanceof Integer)) {
            return true;
        }
        int least = method.getName().equals("bill") ? -6 : method.getName().equals("alters") ? -999 : -3;
        return (Integer) answer >= least;
    }

    private String name() {
        StringBuilder text = new StringBuilder(method.getName());
        for (Object argument : arguments) {
            text.append(' ').append(argument);
        }
        return text.toString();
    }
}
