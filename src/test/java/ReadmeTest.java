import java.io.IOException;
import java.lang.reflect.Method;
import java.nio.charset.StandardCharsets;
import java.nio.file.Files;
import java.nio.file.Path;
import java.util.Set;
import java.util.TreeSet;
import java.util.regex.Matcher;
import java.util.regex.Pattern;

/** README.md shows every call of the face, and each answers what README.md says. */
public final class ReadmeTest {
    private static final Pattern CALL = Pattern.compile("move\\.(\\w+)\\((.*)\\); +// (-?\\d+|true|false)\\b.*");

    public static void main(String[] args) throws IOException, ReflectiveOperationException {
        NightMove move = new NightMove();
        Set<String> shown = new TreeSet<>();
        for (String line : Files.readAllLines(Path.of("README.md"), StandardCharsets.UTF_8)) {
            if (line.startsWith("move.")) {
                shown.add(answerAsSaid(move, line));
            }
        }
        for (Method method : NightMove.class.getDeclaredMethods()) {
            if (java.lang.reflect.Modifier.isPublic(method.getModifiers())) {
                Check.due("README.md shows " + method.getName(), shown.contains(method.getName()), true);
            }
        }
        Check.finish();
    }

    private static String answerAsSaid(NightMove move, String line) throws ReflectiveOperationException {
        Matcher matcher = CALL.matcher(line);
        boolean isCall = matcher.matches();
        Check.due("a call and its answer: " + line, isCall, true);
        if (!isCall) {
            return "";
        }
        Method method = named(matcher.group(1));
        String answer = String.valueOf(method.invoke(move, numbers(method, matcher.group(2))));
        Check.due(line + " (answered " + answer + ")", answer.equals(matcher.group(3)), true);
        return method.getName();
    }

    private static Method named(String name) throws NoSuchMethodException {
        for (Method method : NightMove.class.getMethods()) {
            if (method.getName().equals(name)) {
                return method;
            }
        }
        throw new NoSuchMethodException(name);
    }

    private static Object[] numbers(Method method, String text) {
        Class<?>[] types = method.getParameterTypes();
        String[] words = text.split(", ");
        Object[] numbers = new Object[types.length];
        for (int i = 0; i < types.length; i++) {
            boolean isNumber = types[i] == int.class;
            numbers[i] = isNumber ? (Object) Integer.decode(words[i]) : (Object) Boolean.valueOf(words[i]);
        }
        return numbers;
    }
}
