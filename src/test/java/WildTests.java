import java.lang.reflect.InvocationTargetException;
import java.lang.reflect.Method;

/** Every call with numbers from far out: it answers, or throws exactly what its throws clause names. */
final class WildTests {
    private static final int[] NUMBERS = {Integer.MIN_VALUE, -2000, -1, 0, 1, 5, 60, 2000, Integer.MAX_VALUE};

    private final Check check;

    WildTests(Check check) {
        this.check = check;
    }

    void run() {
        check.at("numbers from far out");
        for (int round = 0; round < 2; round++) {
            for (Method method : ReelScreens.class.getMethods()) {
                if (method.getDeclaringClass() == ReelScreens.class) {
                    allOf(method, round == 0 ? new ReelScreens() : filled());
                }
            }
        }
    }

    private static ReelScreens filled() {
        ReelScreens x = new ReelScreens();
        x.film(1, 10);
        x.film(6, 25);
        x.show(0, 0, 0, 0);
        x.show(1, 1, 500, 20);
        x.guest(0, 0, 2000);
        x.attend(0, 0);
        x.keep();
        PlanTests.write(x, "0/2@100;1/1@500");
        return x;
    }

    private void allOf(Method method, ReelScreens x) {
        int parameters = method.getParameterCount();
        int rows = 1;
        for (int i = 0; i < parameters; i++) {
            rows *= NUMBERS.length;
        }
        for (int row = 0; row < rows; row++) {
            Object[] arguments = new Object[parameters];
            int rest = row;
            for (int i = 0; i < parameters; i++) {
                arguments[i] = NUMBERS[rest % NUMBERS.length];
                rest /= NUMBERS.length;
            }
            check.holds(method.getName() + " " + java.util.Arrays.toString(arguments), isNamed(method, x, arguments));
        }
    }

    /** Whether a call answers, or throws what its throws clause names. */
    static boolean isNamed(Method method, ReelScreens x, Object[] arguments) {
        try {
            method.invoke(x, arguments);
            return true;
        } catch (InvocationTargetException e) {
            for (Class<?> named : method.getExceptionTypes()) {
                if (e.getCause().getClass() == named) {
                    return true;
                }
            }
            return false;
        } catch (IllegalAccessException e) {
            return false;
        }
    }
}
