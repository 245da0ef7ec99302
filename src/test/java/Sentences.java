import java.lang.reflect.InvocationTargetException;
import java.lang.reflect.Method;
import java.util.Arrays;
import java.util.Comparator;

/** Runs the tests of a class that are each about a sentence, so that none can be forgotten. */
final class Sentences {
    private Sentences() {
    }

    static void testAll(Class<?> tests) {
        Method[] methods = tests.getDeclaredMethods();
        Arrays.sort(methods, Comparator.comparing(Method::getName));
        int found = 0;
        for (Method method : methods) {
            Sentence sentence = method.getAnnotation(Sentence.class);
            if (sentence != null) {
                found++;
                test(method, sentence.value());
            }
        }
        System.out.println(found + " tests of a sentence each");
        Check.end();
    }

    private static void test(Method method, String sentence) {
        Check.begin(method.getName() + " [" + sentence + "] ");
        try {
            method.invoke(null);
        } catch (InvocationTargetException e) {
            Check.due("the call that threw " + e.getCause(), 0, 1);
        } catch (IllegalAccessException e) {
            Check.due("the test, which is hidden,", 0, 1);
        }
        Check.begin("");
    }
}
