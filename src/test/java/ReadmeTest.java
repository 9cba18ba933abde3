import java.io.IOException;
import java.lang.reflect.InvocationTargetException;
import java.lang.reflect.Method;
import java.lang.reflect.Modifier;
import java.nio.file.Files;
import java.nio.file.Path;
import java.util.Set;
import java.util.TreeSet;
import java.util.regex.Matcher;
import java.util.regex.Pattern;

/** The calls that README.md shows, from its top to its bottom, each with the answer that stands behind it there. */
public final class ReadmeTest {
    private static final Check CHECK = new Check("ReadmeTest");
    private static final Path PAGE = Path.of("README.md");
    private static final Pattern CALL = Pattern.compile("(?m)^(?:BetsOnBets x = new BetsOnBets\\(\\);"
            + "|(?:tell\\(x, \"([^\"]*)\"\\)|x\\.(\\w+)\\(([-0-9, ]*)\\)); *// (-?\\d+)(?::.*)?)$");
    private static final Pattern BEGUN = Pattern.compile("(?m)^(tell\\(|x\\.|BetsOnBets x)");
    private static BetsOnBets x = new BetsOnBets();

    public static void main(String[] args) throws IOException {
        String page = Files.readString(PAGE);
        Set<String> shown = new TreeSet<>(Set.of("letter", "inn"));
        Matcher call = CALL.matcher(page);
        int calls = 0;
        while (call.find()) {
            calls++;
            if (call.group(1) != null) {
                CHECK.due(call.group(), Check.inn(x, call.group(1)), Integer.parseInt(call.group(4)));
            } else if (call.group(2) != null) {
                shown.add(call.group(2));
                CHECK.due(call.group(), answer(call.group(2), call.group(3)), Integer.parseInt(call.group(4)));
            } else {
                x = new BetsOnBets();
            }
        }
        CHECK.due("lines of which the answer can be read", calls, BEGUN.matcher(page).results().count());
        everyCall(shown);
        CHECK.end();
    }

    private static int answer(String name, String numbers) {
        String[] texts = numbers.isEmpty() ? new String[0] : numbers.split(", ");
        Class<?>[] types = new Class<?>[texts.length];
        Object[] values = new Object[texts.length];
        for (int i = 0; i < texts.length; i++) {
            types[i] = int.class;
            values[i] = Integer.valueOf(texts[i]);
        }
        try {
            return (int) BetsOnBets.class.getMethod(name, types).invoke(x, values);
        } catch (NoSuchMethodException | IllegalAccessException | InvocationTargetException e) {
            throw new IllegalStateException("README.md shows " + name + "(" + numbers + ")", e);
        }
    }

    private static void everyCall(Set<String> shown) {
        for (Method method : BetsOnBets.class.getDeclaredMethods()) {
            CHECK.holds("README.md does not show " + method.getName(),
                    !Modifier.isPublic(method.getModifiers()) || shown.contains(method.getName()));
        }
    }
}
