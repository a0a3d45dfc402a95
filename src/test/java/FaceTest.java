import java.io.IOException;
import java.lang.reflect.Member;
import java.lang.reflect.Method;
import java.lang.reflect.Modifier;
import java.nio.file.Files;
import java.nio.file.Path;
import java.util.Arrays;
import java.util.List;
import java.util.TreeSet;
import java.util.regex.Matcher;
import java.util.regex.Pattern;
import java.util.stream.Stream;

/** The public face, and the rules of LANGUAGE.md that can be seen from outside; takes the source's path. */
public final class FaceTest {
    private static final String[] FACE = {"int type(int)", "int wipe()", "int fault()", "int begins(int,int)",
        "int house(int)", "int law(int,int)", "int stand(int,int,int)", "int man(int,int,int)", "int bag(int,int,int)",
        "int met(int,int,int)", "int meetings(int)", "int carried(int,int,int)", "int namesOff(int,int)",
        "int isTrue(int)", "int again()", "int letter(int,int,int,int)", "int giveIn(int,int,int)",
        "int served(int,int)", "int fewest(int,int)", "int came(int,int,int,int)", "int read(int)", "int forget()",
        "int late()", "int stood(int)", "int sheet(int,int,int)", "int lose(int)", "int lay(int,int,int,int)",
        "int get(int,int,int)", "int copy(int,int,int,int,int)", "int write(int,int,int)", "int count(int)",
        "long digest()"};

    public static void main(String[] args) throws IOException {
        face();
        nested();
        String source = args.length > 0 && !args[0].isEmpty() ? args[0] : "src/main/java/PostmenMeet.java";
        source(Files.readString(Path.of(source)));
        Check.end();
    }

    private static void face() {
        Class<?> c = PostmenMeet.class;
        Check.holds("final", Modifier.isFinal(c.getModifiers()));
        Check.holds("one public constructor", c.getConstructors().length == 1 && c.getDeclaredConstructors().length == 1);
        TreeSet<String> methods = new TreeSet<>();
        for (Method m : c.getDeclaredMethods()) {
            if (!Modifier.isPrivate(m.getModifiers())) {
                Check.holds(m.getName() + " is public, not static", m.getModifiers() == Modifier.PUBLIC);
                String parameters = Arrays.toString(Arrays.stream(m.getParameterTypes()).map(Class::getName).toArray());
                methods.add(m.getReturnType() + " " + m.getName() + "("
                        + parameters.replaceAll("[\\[\\] ]", "") + ")");
            }
        }
        Check.holds("the methods are those of the document: " + methods, methods.equals(new TreeSet<>(List.of(FACE))));
        TreeSet<String> fields = new TreeSet<>();
        Stream.of(c.getDeclaredFields()).filter(f -> !Modifier.isPrivate(f.getModifiers()))
                .forEach(f -> fields.add(f.getName()));
        Check.holds("the constants " + fields, fields.equals(new TreeSet<>(List.of("NONE", "BAD", "NOT", "FULL"))));
        Check.due("NONE", PostmenMeet.NONE, -1);
        Check.due("BAD", PostmenMeet.BAD, -2);
        Check.due("NOT", PostmenMeet.NOT, -3);
        Check.due("FULL", PostmenMeet.FULL, -4);
    }

    private static void nested() {
        Class<?>[] inside = PostmenMeet.class.getDeclaredClasses();
        Check.holds("at most eleven classes inside", inside.length <= 11);
        for (Class<?> c : Stream.concat(Stream.of(PostmenMeet.class), Stream.of(inside)).toList()) {
            if (c != PostmenMeet.class) {
                Check.holds(c + " is static", Modifier.isStatic(c.getModifiers()));
                Check.holds(c + " is not public", !Modifier.isPublic(c.getModifiers()));
            }
            long fields = Stream.of(c.getDeclaredFields()).map(Member::getModifiers)
                    .filter(m -> !Modifier.isStatic(m)).count();
            Check.holds(c + " has few fields", fields <= 20);
            for (Method m : c.getDeclaredMethods()) {
                Check.holds(m + " has at most seven parameters", m.getParameterCount() <= 7);
                boolean named = Stream.of(FACE).anyMatch(f -> f.contains(" " + m.getName() + "("));
                Check.holds(m + " has a name of its own", Modifier.isPublic(m.getModifiers()) || !named);
            }
        }
    }

    private static void source(String text) {
        String code = text.replaceAll("(?s)/\\*.*?\\*/", "").replaceAll("//[^\n]*", "");
        String[] ruledOut = {"\\bthrows?\\b", "\\btry\\b", "\\bcatch\\b", "\\bsynchronized\\b", "\\bassert\\b",
            "->", "::", "\\bpackage\\b", "Exact\\b", "\\bMath\\.random\\b", "\\bThread\\b", "\\bSystem\\.(?!arraycopy)",
            "\\bObject\\b", "\\bimport (?!java\\.util\\.Arrays;)"};
        for (String rule : ruledOut) {
            Matcher m = Pattern.compile(rule).matcher(code);
            Check.holds("no " + rule + " in the source", !m.find());
        }
        Check.holds("no sign above 126", text.chars().allMatch(c -> c == '\n' || c >= 32 && c <= 126));
        methodsAreShort(code.split("\n"));
    }

    private static void methodsAreShort(String[] lines) {
        int begun = -1;
        for (int i = 0; i < lines.length; i++) {
            if (lines[i].matches(" {4}( {4})?(public|private) [^=;]*\\(.*")) {
                begun = i;
            }
            if (begun >= 0 && lines[i].matches(" {4}( {4})?}")) {
                Check.holds("short: " + lines[begun].trim(), i - begun + 1 <= 60);
            }
        }
    }
}
