import java.lang.reflect.Method;
import java.util.List;

/** Each promise of the document has tests of its edges that are named by it. */
public final class NamedTest {
    private static final int PROMISES = 33;
    private static final List<Class<?>> EDGES = List.of(RoadEdgesTest.class, WalkEdgesTest.class,
            LetterEdgesTest.class, StoodEdgesTest.class, SheetEdgesTest.class);

    public static void main(String[] args) {
        for (int promise = 1; promise <= PROMISES; promise++) {
            Check.holds("promise " + promise + " has a test", hasTest(promise));
        }
        Check.end();
    }

    private static boolean hasTest(int promise) {
        for (Class<?> tests : EDGES) {
            for (Method m : Check.named(tests)) {
                if (m.getName().matches("promise" + promise + "[A-Z].*")) {
                    return true;
                }
            }
        }
        return false;
    }
}
