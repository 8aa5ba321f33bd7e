import java.lang.reflect.Method;
import java.lang.reflect.Modifier;
import java.nio.file.Files;
import java.nio.file.Path;
import java.util.regex.Matcher;
import java.util.regex.Pattern;

/** The example of README.md answers as its comments say, and each call of the face is told there. */
public final class ReadmeTest {
    /** A call, its arguments, and behind the slashes the answer, up to a colon if more follows. */
    private static final Pattern LINE = Pattern.compile("desk\\.(\\w+)\\((.*)\\); +// ([^:]*).*");

    private ReadmeTest() {
    }

    public static void main(String[] args) throws Exception {
        String text = Files.readString(Path.of("README.md"));
        RegionDesk desk = new RegionDesk();
        for (String line : text.split("\n")) {
            if (line.startsWith("desk.")) {
                answerOf(desk, line);
            }
        }
        for (Method method : RegionDesk.class.getDeclaredMethods()) {
            if (Modifier.isPublic(method.getModifiers())) {
                Check.due("a use of " + method.getName(), true, text.contains("\ndesk." + method.getName() + "("));
                Check.due("a word on " + method.getName(), true, text.contains("`" + method.getName() + "("));
            }
        }
        Check.end();
    }

    private static void answerOf(RegionDesk desk, String line) throws Exception {
        Matcher parts = LINE.matcher(line);
        Check.due("a call and what it does: " + line, true, parts.matches());
        Method method = named(parts.group(1));
        Object answer = method.invoke(desk, arguments(parts.group(2)));
        if (method.getReturnType() != void.class) {
            Check.due(line, parts.group(3), String.valueOf(answer));
        }
    }

    private static Method named(String name) {
        for (Method method : RegionDesk.class.getMethods()) {
            if (method.getName().equals(name)) {
                return method;
            }
        }
        throw new IllegalStateException("README.md uses " + name + ", which is no call of the face");
    }

    private static Object[] arguments(String text) {
        String[] words = text.isEmpty() ? new String[0] : text.split(", ");
        Object[] arguments = new Object[words.length];
        for (int i = 0; i < words.length; i++) {
            boolean truth = words[i].equals("true") || words[i].equals("false");
            arguments[i] = truth ? (Object) Boolean.valueOf(words[i]) : (Object) Integer.valueOf(words[i]);
        }
        return arguments;
    }
}
