import java.io.IOException;
import java.lang.reflect.Method;
import java.lang.reflect.Modifier;
import java.nio.file.Files;
import java.nio.file.Path;
import java.util.Arrays;
import java.util.regex.Matcher;
import java.util.regex.Pattern;
import java.util.stream.Stream;

/** README.md tells the truth: its example answers as it says there, and it names every call. */
public final class ReadmeTest {
    private static final Pattern ROAD = Pattern.compile("for \\(char c : \"([^\"]*)\"\\.toCharArray");
    private static final Pattern CALL = Pattern.compile("(?m)^x\\.(\\w+)\\(([-0-9, ]*)\\); *// (-?\\d+)");
    private static final Pattern ANY_CALL = Pattern.compile("(?m)^x\\.");

    public static void main(String[] args) throws IOException, ReflectiveOperationException {
        String page = Files.readString(Path.of("README.md"));
        example(page);
        for (Method m : PostmenMeet.class.getDeclaredMethods()) {
            if (Modifier.isPublic(m.getModifiers())) {
                Check.holds("README.md names " + m.getName(), page.contains("`" + m.getName() + "`"));
            }
        }
        Check.end();
    }

    private static void example(String page) throws ReflectiveOperationException {
        Matcher road = ROAD.matcher(page);
        Check.holds("the example has a road", road.find());
        PostmenMeet x = Check.road(road.group(1));
        int calls = 0;
        for (Matcher call = CALL.matcher(page); call.find(); calls++) {
            Object[] numbers = Stream.of(call.group(2).split(", ")).filter(n -> !n.isEmpty())
                    .map(Integer::valueOf).toArray();
            Class<?>[] ints = new Class<?>[numbers.length];
            Arrays.fill(ints, int.class);
            Number got = (Number) PostmenMeet.class.getMethod(call.group(1), ints).invoke(x, numbers);
            Check.due("README.md: " + call.group(), got.longValue(), Long.parseLong(call.group(3)));
        }
        Check.due("calls of the example that tell their answer", calls, ANY_CALL.matcher(page).results().count());
    }
}
