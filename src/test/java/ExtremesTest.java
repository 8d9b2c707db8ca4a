import java.lang.reflect.InvocationTargetException;
import java.lang.reflect.Method;

/** No call throws, whatever its arguments, and each answers a number or one of the refusals. */
public final class ExtremesTest {
    private static final int[] MANY = {Dues.MIN, Dues.MIN + 1, -1003, -100, -99, -33, -32, -2, -1, 0, 1, 2, 3, 4, 5, 6, 7, 8, 9, 13, 14,
        19, 20, 26, 27, 31, 32, 33, 63, 64, 65, 99, 100, 122, 123, 199, 200, 215, 216, 255, 256, 729, Dues.MAX - 1, Dues.MAX};
    private static final int[] SOME = {Dues.MIN, -100, -2, -1, 0, 1, 2, 3, 5, 6, 7, 13, 31, 32, 64, 99, Dues.MAX};
    private static final int[] FEW = {Dues.MIN, -1, 0, 1, 2, 4, 5, 6, 32, Dues.MAX};
    private static final int CALLS = 400;

    public static void main(String[] args) {
        Dues.runAll(Tests.class);
    }

    private static SignTriples begun(int state) {
        SignTriples x = switch (state) {
            case 0 -> new SignTriples();
            case 1 -> Made.allUp(4);
            case 2 -> Made.allUp(6);
            case 3 -> Made.told("signs 5 uuuuouoooo");
            default -> Made.allNothing(6);
        };
        x.keep(0);
        x.box(0, 0, 6);
        x.box(1, 1, 2);
        x.lay(0, 5, 0, 0);
        x.lay(0, 0, 3, 0);
        Made.write(x, "point 0 1 2");
        x.flip(0);
        return x;
    }

    private static boolean isAnswer(int answer) {
        return answer >= -99 && answer <= 255 || answer <= SignTriples.UNKNOWN && answer >= SignTriples.FULL
                || answer <= SignTriples.NULL && answer >= SignTriples.OTHER;
    }

    private static void callAll(Method call, int state) throws IllegalAccessException {
        int parameters = call.getParameterCount();
        int[] values = parameters <= 2 ? MANY : parameters == 3 ? SOME : FEW;
        int combinations = 1;
        for (int p = 0; p < parameters; p++) {
            combinations *= values.length;
        }
        SignTriples x = begun(state);
        for (int c = 0; c < Math.max(combinations, 40); c++) {
            if (c % CALLS == CALLS - 1) {
                x = begun(state);
            }
            Object[] arguments = new Object[parameters];
            StringBuilder name = new StringBuilder(call.getName());
            int rest = c;
            for (int p = 0; p < parameters; p++) {
                arguments[p] = values[rest % values.length];
                rest /= values.length;
                name.append(' ').append(arguments[p]);
            }
            callOne(x, call, arguments, name.append(", state ").append(state).toString());
        }
    }

    private static void callOne(SignTriples x, Method call, Object[] arguments, String name) throws IllegalAccessException {
        try {
            int answer = (Integer) call.invoke(x, arguments);
            Dues.due(name + ": " + answer + " is an answer", isAnswer(answer) ? 1 : 0, 1);
        } catch (InvocationTargetException e) {
            Dues.due(name, "throws " + e.getCause(), "an answer");
        }
    }

    static final class Tests {
        static void noCallThrows() throws IllegalAccessException {
            Dues.sentence("Refused, and nothing changes");
            for (Method call : SignTriples.class.getDeclaredMethods()) {
                for (int state = 0; state < 5; state++) {
                    if (java.lang.reflect.Modifier.isPublic(call.getModifiers())) {
                        callAll(call, state);
                    }
                }
            }
        }
    }
}
