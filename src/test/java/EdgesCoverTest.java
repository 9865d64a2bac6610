import java.lang.reflect.Method;

/** Each of the document's 48 promises has tests of its edges that bear its number. */
public final class EdgesCoverTest {
    private static final Check CHECK = new Check();
    private static final int PROMISES = 48;

    public static void main(String[] args) {
        int[] tests = new int[PROMISES + 1];
        for (Class<?> type : new Class<?>[] {TextEdgesTest.class, DeedEdgesTest.class, QuestionEdgesTest.class}) {
            for (Method method : type.getDeclaredMethods()) {
                int promise = Check.promiseOf(method);
                CHECK.due(method.getName() + " names a promise", promise >= 0 && promise <= PROMISES, true);
                tests[promise >= 0 && promise <= PROMISES ? promise : 0]++;
            }
        }
        for (int promise = 1; promise <= PROMISES; promise++) {
            CHECK.due("promise " + promise + " has tests", tests[promise] > 0, true);
        }
        CHECK.finish("EdgesCoverTest");
    }
}
