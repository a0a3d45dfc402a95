import java.lang.reflect.Method;
import java.util.Comparator;
import java.util.List;
import java.util.stream.Stream;

/** What the tests share: counts wrong answers, types roads, ends with exit code 1 if one was wrong. */
final class Check {
    private static int wrong = 0;
    private static int asked = 0;
    private static String test = "";

    private Check() {
    }

    static void due(String call, long got, long want) {
        asked++;
        if (got != want) {
            wrong++;
            if (wrong <= 40) {
                System.out.println(test + call + " answered " + got + ", due is " + want);
            }
        }
    }

    static void holds(String what, boolean is) {
        due(what, is ? 1 : 0, 1);
    }

    static int wrongSoFar() {
        return wrong;
    }

    static PostmenMeet road(String text) {
        PostmenMeet x = new PostmenMeet();
        type(x, text);
        return x;
    }

    static void type(PostmenMeet x, String text) {
        int had = x.count(3);
        for (int i = 0; i < text.length(); i++) {
            due("type byte " + i + " of " + text, x.type(text.charAt(i)), had + i + 1);
        }
    }

    /** PLACE, direction and BAG, as many as are told. */
    static void manIs(PostmenMeet x, int man, int time, int... want) {
        for (int what = 0; what < want.length; what++) {
            due("man(" + man + ", " + time + ", " + what + ")", x.man(man, time, what), want[what]);
        }
    }

    /** PLACE, and who has it. */
    static void bagIs(PostmenMeet x, int bag, int time, int place, int holder) {
        due("bag(" + bag + ", " + time + ", 0)", x.bag(bag, time, 0), place);
        due("bag(" + bag + ", " + time + ", 1)", x.bag(bag, time, 1), holder);
    }

    /** The BAG, and when it comes. */
    static void letterIs(PostmenMeet x, int from, int minute, int to, int bag, int comes) {
        String call = "letter(" + from + ", " + minute + ", " + to + ", ";
        due(call + "0)", x.letter(from, minute, to, 0), bag);
        due(call + "1)", x.letter(from, minute, to, 1), comes);
    }

    static String two(int n) {
        return n < 10 ? "0" + n : Integer.toString(n);
    }

    /** The numbers just outside of least to most, and those farthest from them. */
    static int[] outside(int least, int most) {
        return new int[] {Integer.MIN_VALUE, least - 1, most + 1, Integer.MAX_VALUE};
    }

    /** The tests of a class are its methods named by a promise: promise7LawOfTwo. */
    static List<Method> named(Class<?> tests) {
        return Stream.of(tests.getDeclaredMethods()).filter(m -> m.getName().matches("promise[1-9].*"))
                .sorted(Comparator.comparing(Method::getName)).toList();
    }

    static void each(Class<?> tests) throws ReflectiveOperationException {
        for (Method m : named(tests)) {
            int before = asked;
            test = m.getName() + ": ";
            m.invoke(null);
            holds("asks something", asked > before);
        }
        end();
    }

    static void end() {
        System.out.println(wrong == 0 ? asked + " answers are as due" : wrong + " of " + asked + " are not as due");
        if (wrong != 0) {
            System.exit(1);
        }
    }
}
