import java.lang.reflect.InvocationTargetException;
import java.lang.reflect.Method;
import java.lang.reflect.Modifier;

/** What the tests of single sentences share: which sentence is looked at, what is due, how many answers are not. */
final class Dues {
    static final int MIN = Integer.MIN_VALUE;
    static final int MAX = Integer.MAX_VALUE;

    private static String sentence = "";
    private static int sentences = 0;
    private static int wrong = 0;

    private Dues() {
    }

    /** The words of the document that all answers up to the next sentence are due by. */
    static void sentence(String words) {
        sentence = words;
        sentences++;
    }

    static void due(String call, int got, int want) {
        if (got != want) {
            wrong++;
            System.out.println("\"" + sentence + "\": " + call + " answered " + got + ", due is " + want);
        }
    }

    static void due(String call, String got, String want) {
        if (!got.equals(want)) {
            wrong++;
            System.out.println("\"" + sentence + "\": " + call + " answered " + got + ", due is " + want);
        }
    }

    /** Runs every test of a class (its static methods without parameters), so that none can be left out of a list. */
    static void runAll(Class<?> tests) {
        for (Method test : tests.getDeclaredMethods()) {
            if (Modifier.isStatic(test.getModifiers()) && test.getParameterCount() == 0 && !test.isSynthetic()) {
                run(test);
            }
        }
        System.out.println(tests.getName() + ": " + sentences + " sentences, " + wrong + " answers are not as due");
        if (wrong != 0) {
            System.exit(1);
        }
    }

    private static void run(Method test) {
        int before = sentences;
        try {
            test.invoke(null);
        } catch (InvocationTargetException | IllegalAccessException e) {
            wrong++;
            System.out.println("\"" + sentence + "\": " + test.getName() + " was ended by " + e + ", " + e.getCause());
        }
        if (sentences == before) {
            wrong++;
            System.out.println(test.getName() + " names no sentence");
        }
    }
}
