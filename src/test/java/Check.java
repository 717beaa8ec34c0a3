import java.lang.reflect.InvocationTargetException;
import java.lang.reflect.Method;
import java.util.ArrayList;
import java.util.Arrays;
import java.util.Comparator;
import java.util.List;

/** Counts the answers that are not as due, and ends a test. */
final class Check {
    private static int wrong = 0;
    private static String place = "";

    private Check() {
    }

    static void due(String call, long got, long want) {
        if (got != want) {
            wrong++;
            System.out.println(place + call + " answered " + got + ", due is " + want);
        }
    }

    static boolean allAsDue() {
        return wrong == 0;
    }

    /** The tests of a class that have a sentence beside them, by name. */
    static List<Method> sentenceTests(Class<?> tests) {
        List<Method> found = new ArrayList<>(Arrays.asList(tests.getDeclaredMethods()));
        found.removeIf(method -> method.getAnnotation(Sentence.class) == null);
        found.sort(Comparator.comparing(Method::getName));
        return found;
    }

    /** Runs each of them; one that throws is one that failed, and the others run all the same. */
    static void runSentences(Class<?> tests) {
        List<Method> found = sentenceTests(tests);
        for (Method test : found) {
            Sentence sentence = test.getAnnotation(Sentence.class);
            place = sentence.from() + ", \"" + sentence.words() + "\", " + test.getName() + ": ";
            try {
                test.invoke(null);
            } catch (InvocationTargetException thrown) {
                wrong++;
                System.out.println(place + "threw " + thrown.getCause());
            } catch (IllegalAccessException closed) {
                wrong++;
                System.out.println(place + "can't be called");
            }
        }
        place = "";
        due("tests in " + tests.getName() + ", 1 for some", found.isEmpty() ? 0 : 1, 1);
        System.out.println(found.size() + " sentence tests ran");
    }

    static void end() {
        System.out.println(wrong == 0 ? "all answers are as due" : wrong + " answers are not as due");
        if (wrong != 0) {
            System.exit(1);
        }
    }
}
