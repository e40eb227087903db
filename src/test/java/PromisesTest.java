import java.lang.reflect.Method;

/** Each promise has tests that bear its number. */
public final class PromisesTest {
    private static final Class<?>[] TESTS = {TextsTest.class, ErrorsTest.class, WeatherTest.class, PegsAndSpotsTest.class,
        GarmentsTest.class, HangingTest.class, AccountsTest.class, PredictionsTest.class, ChangesTest.class,
        MinutesTest.class, UndoAndOutputTest.class};
    private static final Due DUE = new Due("PromisesTest");

    public static void main(String[] args) {
        int[] tests = new int[66];
        for (Class<?> one : TESTS) {
            for (Method method : one.getDeclaredMethods()) {
                tests[Math.min(Due.promiseOf(method), 65)]++;
            }
        }
        for (int promise = 1; promise <= 65; promise++) {
            DUE.is("promise " + promise + " has a test", tests[promise] > 0, true);
        }
        DUE.end();
    }
}
