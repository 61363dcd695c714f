import java.io.IOException;
import java.lang.reflect.InvocationTargetException;
import java.lang.reflect.Method;
import java.nio.file.Files;
import java.nio.file.Path;
import java.util.Arrays;
import java.util.regex.Matcher;
import java.util.regex.Pattern;

/** The game that README.md tells: each call must answer what stands behind it. */
public final class ReadmeTest {
    private static final Path README = Path.of("README.md");
    private static final String NEW_OBJECT = "BrackenGambit game = new BrackenGambit();";
    private static final Pattern CALL = Pattern.compile("game\\.(\\w+)\\(([-\\d, ]*)\\); +// (throws \\w+|\\w+)(: .*)?");
    private static final Pattern TYPING =
            Pattern.compile("for \\(char c : \"([^\"]*)\"\\.toCharArray\\(\\)\\) game\\.append\\(c\\);");

    public static void main(String[] args) throws IOException {
        String[] parts = Files.readString(README).split("```(java)?\n");
        Check.same("README.md tells one game", parts.length, 3);
        Check.same("it begins with a new object", parts[1].startsWith(NEW_OBJECT), true);
        BrackenGambit game = new BrackenGambit();
        for (String line : parts[1].substring(NEW_OBJECT.length()).strip().split("\n")) {
            follow(game, line);
        }
        Check.finish();
    }

    private static void follow(BrackenGambit game, String line) {
        Matcher typing = TYPING.matcher(line);
        Matcher call = CALL.matcher(line);
        if (typing.matches()) {
            Check.type(game, typing.group(1));
        } else if (call.matches()) {
            Check.same(line, answer(game, call.group(1), call.group(2)), call.group(3));
        } else {
            Check.same("a line that can be followed", line, "");
        }
    }

    private static String answer(BrackenGambit game, String name, String numbers) {
        Object[] given = numbers.isEmpty()
                ? new Object[0] : Arrays.stream(numbers.split(", ")).map(Integer::valueOf).toArray();
        Class<?>[] types = new Class<?>[given.length];
        Arrays.fill(types, int.class);
        try {
            Method method = BrackenGambit.class.getMethod(name, types);
            return String.valueOf(method.invoke(game, given));
        } catch (InvocationTargetException e) {
            return "throws " + e.getCause().getClass().getSimpleName();
        } catch (ReflectiveOperationException e) {
            return "no such call";
        }
    }
}
