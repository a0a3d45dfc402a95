/** What the tests share: counts wrong answers, types roads, ends with exit code 1 if one was wrong. */
final class Check {
    private static int wrong = 0;
    private static int asked = 0;

    private Check() {
    }

    static void due(String call, long got, long want) {
        asked++;
        if (got != want) {
            wrong++;
            if (wrong <= 40) {
                System.out.println(call + " answered " + got + ", due is " + want);
            }
        }
    }

    static void holds(String what, boolean is) {
        due(what, is ? 1 : 0, 1);
    }

    static int wrongSoFar() {
        return wrong;
    }

    static PostmenMeet road(String text) {
        PostmenMeet x = new PostmenMeet();
        type(x, text);
        return x;
    }

    static void type(PostmenMeet x, String text) {
        for (int i = 0; i < text.length(); i++) {
            due("type a byte of " + text, x.type(text.charAt(i)), x.count(3));
        }
    }

    static void end() {
        System.out.println(wrong == 0 ? asked + " answers are as due" : wrong + " of " + asked + " are not as due");
        if (wrong != 0) {
            System.exit(1);
        }
    }
}
