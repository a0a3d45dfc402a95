import java.lang.reflect.Method;
import java.util.Arrays;
import java.util.Comparator;
import java.util.HashSet;
import java.util.List;
import java.util.Random;
import java.util.Set;
import java.util.stream.Stream;

/** All promises: runs of calls from fixed seeds, each answer held against PlainPostmen's. */
public final class PlainTest {
    private static final int RUNS = 360;
    private static final int STOOD_RUNS = 10;
    private static final int EDGE_RUNS = 120;
    /** Numbers at, just inside and just outside of all that the document tells. */
    private static final int[] EDGES = {Integer.MIN_VALUE, -2, -1, 0, 1, 2, 3, 4, 5, 6, 7, 12, 13, 39, 40, 41, 59, 60,
        61, 98, 99, 100, 198, 199, 200, 201, 255, 256, 399, 400, 401, Integer.MAX_VALUE};
    /** All calls but those that are dear to the plain writing; the others' runs have them. */
    private static final List<Method> CALLS = Stream.of(PostmenMeet.class.getDeclaredMethods())
            .filter(m -> m.toString().startsWith("public int") && !m.getName().equals("stood"))
            .sorted(Comparator.comparing(Method::getName)).toList();

    private final Random random;
    private final PostmenMeet x = new PostmenMeet();
    private final PlainPostmen plain = new PlainPostmen();
    private final String run;
    private int length = 1;

    private PlainTest(int seed) {
        random = new Random(seed);
        run = "seed " + seed + ": ";
    }

    public static void main(String[] args) throws ReflectiveOperationException {
        for (int seed = 0; seed < RUNS && Check.wrongSoFar() == 0; seed++) {
            new PlainTest(seed).mixedRun();
        }
        for (int seed = 0; seed < STOOD_RUNS && Check.wrongSoFar() == 0; seed++) {
            new PlainTest(1000 + seed).stoodRun();
        }
        for (int seed = 0; seed < EDGE_RUNS && Check.wrongSoFar() == 0; seed++) {
            new PlainTest(2000 + seed).edgeRun();
        }
        Check.end();
    }

    private void edgeRun() throws ReflectiveOperationException {
        newRoad();
        for (int c = 0; c < 150; c++) {
            Method call = CALLS.get(random.nextInt(CALLS.size()));
            if (!List.of("wipe", "type").contains(call.getName()) || random.nextInt(20) == 0) {
                Object[] numbers = new Object[call.getParameterCount()];
                Arrays.setAll(numbers, i -> random.nextInt(3) == 0 ? EDGES[random.nextInt(EDGES.length)]
                        : random.nextInt(4));
                Method same = PlainPostmen.class.getDeclaredMethod(call.getName(), call.getParameterTypes());
                due(call.getName() + Arrays.toString(numbers), (int) call.invoke(x, numbers),
                        (int) same.invoke(plain, numbers));
                due("count(8)", x.count(8), plain.count(8));
            }
        }
        due("digest()", x.digest(), plain.digest());
    }

    private void mixedRun() {
        for (int i = 0; i < 2; i++) {
            newRoad();
            for (int c = 0; c < 40; c++) {
                call(random.nextInt(34));
            }
        }
        due("digest()", x.digest(), plain.digest());
    }

    /** Letters are told as they come with one man standing, so that somebody is found. */
    private void stoodRun() {
        newRoad();
        laws();
        int[] was = {random.nextInt(2), random.nextInt(31), 1 + random.nextInt(10)};
        for (int i = 0; i < 2 + random.nextInt(3); i++) {
            int a = pace();
            int m = random.nextInt(30);
            int b = pace();
            plain.stand(was[0], was[1], was[2]);
            int comes = plain.letter(a, m, b, 1);
            plain.stand(was[0], 0, 0);
            due("came", x.came(a, m, b, comes), plain.came(a, m, b, comes));
        }
        due("stood(0)", x.stood(0), plain.stood(0));
        due("stood(1)", x.stood(1), plain.stood(1));
        due("late()", x.late(), plain.late());
    }

    private void due(String call, long got, long want) {
        Check.due(run + call, got, want);
    }

    private void newRoad() {
        due("wipe()", x.wipe(), plain.wipe());
        length = random.nextInt(3) == 0 ? 1 + random.nextInt(40) : 1 + random.nextInt(12);
        StringBuilder text = new StringBuilder(Check.two(length));
        int men = 1 + random.nextInt(6);
        Set<Integer> taken = new HashSet<>();
        for (int i = 0; i < men; i++) {
            int p = random.nextInt(length + 1);
            if (taken.add(p) || random.nextInt(30) == 0) {
                int minute = random.nextInt(3) == 0 ? random.nextInt(41) : 0;
                text.append(';').append(Check.two(p)).append(random.nextBoolean() ? 'u' : 'd').append(Check.two(minute));
            }
            if (random.nextInt(2) == 0) {
                text.append(";h").append(Check.two(random.nextInt(length + 1)));
            }
        }
        if (random.nextInt(8) == 0) {
            text.insert(random.nextInt(text.length()), ";hud0493x".charAt(random.nextInt(9)));
        }
        if (random.nextInt(12) == 0) {
            text.setLength(random.nextInt(text.length()));
        }
        for (int i = 0; i < text.length(); i++) {
            due("type " + text, x.type(text.charAt(i)), plain.type(text.charAt(i)));
            due("fault of " + text.substring(0, i + 1), x.fault(), plain.fault());
        }
        length = plain.count(0);
    }

    private void laws() {
        int two = random.nextInt(3), more = random.nextInt(2);
        due("law(0, " + two + ")", x.law(0, two), plain.law(0, two));
        due("law(1, " + more + ")", x.law(1, more), plain.law(1, more));
    }

    /** Mostly a number from 0 to one below n, at times one just outside. */
    private int upTo(int n) {
        return random.nextInt(15) == 0 ? (random.nextBoolean() ? -1 : n) : random.nextInt(Math.max(1, n));
    }

    private int pace() {
        return random.nextInt(length + 1);
    }

    private int somePace() {
        return upTo(length + 1);
    }

    private int man() {
        return upTo(Math.max(1, plain.count(1)));
    }

    private int time() {
        return random.nextBoolean() ? upTo(401) : upTo(60);
    }

    private void call(int which) {
        if (which < 6) {
            roadCall(which);
        } else if (which < 16) {
            placeCall(which);
        } else if (which < 25) {
            letterCall(which);
        } else {
            sheetCall(which);
        }
    }

    private void roadCall(int which) {
        int a = upTo(6);
        int b = random.nextInt(3) == 0 ? upTo(100) : upTo(20);
        int c = random.nextInt(3) == 0 ? upTo(100) : upTo(12);
        int man = man();
        switch (which) {
            case 0, 1 -> laws();
            case 2, 3 -> due("stand", x.stand(a, b, c), plain.stand(a, b, c));
            case 4 -> due("begins", x.begins(man, b), plain.begins(man, b));
            default -> due("house", x.house(a), plain.house(a));
        }
    }

    private void placeCall(int which) {
        int a = man();
        int b = man();
        int t = time();
        int what = upTo(3);
        switch (which) {
            case 6, 7 -> due("man", x.man(a, t, what), plain.man(a, t, what));
            case 8, 9 -> due("bag", x.bag(a, t, what), plain.bag(a, t, what));
            case 10 -> due("met", x.met(a, b, t), plain.met(a, b, t));
            case 11 -> due("meetings", x.meetings(t), plain.meetings(t));
            case 12 -> due("carried", x.carried(a, b, t), plain.carried(a, b, t));
            case 13 -> due("namesOff", x.namesOff(a, t), plain.namesOff(a, t));
            case 14 -> due("isTrue", x.isTrue(t), plain.isTrue(t));
            default -> due("again", x.again(), plain.again());
        }
    }

    private void letterCall(int which) {
        int a = somePace();
        int b = somePace();
        int m = upTo(200);
        int t = time();
        int what = upTo(2);
        int n = upTo(201);
        int g = random.nextBoolean() ? upTo(100) : upTo(12);
        int far = upTo(41);
        switch (which) {
            case 16, 17 -> due("letter", x.letter(a, m, b, what), plain.letter(a, m, b, what));
            case 18 -> due("giveIn", x.giveIn(a, t, what), plain.giveIn(a, t, what));
            case 19 -> due("served", x.served(n, g), plain.served(n, g));
            case 20 -> due("fewest", x.fewest(n, g), plain.fewest(n, g));
            case 21 -> due("came", x.came(a, m, far, t), plain.came(a, m, far, t));
            case 22 -> due("read", x.read(what), plain.read(what));
            case 23 -> due("late", x.late(), plain.late());
            default -> {
                if (random.nextInt(4) == 0) {
                    due("forget", x.forget(), plain.forget());
                }
            }
        }
    }

    private void sheetCall(int which) {
        int s = upTo(4);
        int t = upTo(4);
        int form = upTo(3);
        int i = upTo(30);
        int j = upTo(20);
        int n = random.nextInt(40) == 0 ? Integer.MAX_VALUE : upTo(61);
        int v = random.nextBoolean() ? random.nextInt() : upTo(200);
        int bag = man();
        int time = time();
        switch (which) {
            case 25 -> due("sheet", x.sheet(s, form, n), plain.sheet(s, form, n));
            case 26, 27 -> due("lay", x.lay(s, form, i, v), plain.lay(s, form, i, v));
            case 28 -> due("get", x.get(s, form, i), plain.get(s, form, i));
            case 29, 30 -> due("copy", x.copy(s, i, t, j, n), plain.copy(s, i, t, j, n));
            case 31 -> due("write", x.write(bag, time, s), plain.write(bag, time, s));
            case 32 -> due("count", x.count(i), plain.count(i));
            default -> due("lose", x.lose(s), plain.lose(s));
        }
        due("count(8)", x.count(8), plain.count(8));
    }
}
