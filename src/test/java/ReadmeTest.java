import java.io.IOException;
import java.lang.reflect.Method;
import java.nio.file.Files;
import java.nio.file.Path;
import java.util.regex.Matcher;
import java.util.regex.Pattern;

/** Does the calls that stand in README.md, and holds that each answers what stands behind it there. */
public final class ReadmeTest {
    private static final Pattern CALL = Pattern.compile("auction\\.(\\w+)\\(([-0-9, ]*)\\);\\s*// (-?\\d+)(:.*)?");

    public static void main(String[] args) throws IOException {
        ClockLots auction = null;
        int calls = 0;
        int others = 0;
        boolean inside = false;
        for (String line : Files.readAllLines(Path.of("README.md"))) {
            Matcher call = CALL.matcher(line);
            if (line.startsWith("```")) {
                inside = line.equals("```java");
            } else if (inside && line.equals("ClockLots auction = new ClockLots();")) {
                auction = new ClockLots();
            } else if (inside && call.matches()) {
                calls++;
                long want = Long.parseLong(call.group(3));
                Check.due("README: " + line, answer(auction, call.group(1), call.group(2)), want);
            } else if (inside) {
                others++;
            }
        }
        Check.due("README: calls, at least 20 of them", calls >= 20 ? 1 : 0, 1);
        Check.due("README: lines of the example that are no calls with answers", others, 0);
        text("Ls032b103v00025q002w0c", 22);
        Check.end();
    }

    private static long answer(ClockLots auction, String name, String list) {
        String[] words = list.isEmpty() ? new String[0] : list.split(", ");
        Object[] numbers = new Object[words.length];
        for (int i = 0; i < words.length; i++) {
            numbers[i] = Integer.valueOf(words[i]);
        }
        try {
            for (Method method : ClockLots.class.getMethods()) {
                if (method.getName().equals(name) && method.getParameterCount() == words.length) {
                    return (Integer) method.invoke(auction, numbers);
                }
            }
            return -1000000;
        } catch (ReflectiveOperationException e) {
            return -1000001;
        }
    }

    /** The commands that README.md shows make an auction, of which nothing is left out. */
    private static void text(String text, int length) {
        ClockLots auction = new ClockLots();
        for (int i = 0; i < text.length(); i++) {
            Check.due("append of " + text.charAt(i), auction.append(text.charAt(i)), i + 1);
        }
        Check.due("errorPosition", auction.errorPosition(), ClockLots.NONE);
        Check.due("load", auction.load(), 0);
        Check.due("about(1)", auction.about(1), 1);
        Check.due("clearText", auction.clearText(), length);
    }
}
