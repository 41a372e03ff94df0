import java.lang.reflect.Method;

/** Each of the document's promises has tests that bear its name. */
public final class EveryPromiseTest {
    private static final Class<?>[] TESTS = {
        TextBoundariesTest.class, QuestionBoundariesTest.class, SeekBoundariesTest.class, ActBoundariesTest.class};

    public static void main(String[] args) {
        int lacking = 0;
        for (int promise = 1; promise <= 31; promise++) {
            if (testsOf(promise) == 0) {
                lacking++;
                System.out.println("no test bears the name of promise " + promise);
            }
        }
        System.out.println(lacking == 0 ? "each promise has its tests" : lacking + " promises have none");
        if (lacking != 0) {
            System.exit(1);
        }
    }

    private static int testsOf(int promise) {
        String name = String.format("promise%02d_", promise);
        int count = 0;
        for (Class<?> tests : TESTS) {
            for (Method m : tests.getDeclaredMethods()) {
                count += m.getName().startsWith(name) ? 1 : 0;
            }
        }
        return count;
    }
}
