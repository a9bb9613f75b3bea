import java.io.IOException;
import java.lang.reflect.Method;
import java.nio.file.Files;
import java.nio.file.Path;
import java.util.regex.Matcher;
import java.util.regex.Pattern;

/** The calls that README.md tells are made, one after the other, and must answer what it tells behind them. */
final class ReadmeTest {
    private static final Pattern CALL = Pattern.compile("game\\.(\\w+)\\((.*)\\);\\s*// (\\S+): .+");
    private static final int CALLS_LEAST = 20;

    public static void main(String[] args) throws IOException, ReflectiveOperationException {
        Check check = new Check();
        StayWhereFell game = new StayWhereFell();
        int calls = 0;
        for (String line : Files.readAllLines(Path.of("README.md"))) {
            if (line.startsWith("game.")) {
                Matcher told = CALL.matcher(line);
                check.due("a line of the form that is told: " + line, told.matches() ? 1 : 0, 1);
                check.due(line, call(game, told.group(1), told.group(2)), number(told.group(3)));
                calls++;
            }
        }
        check.due("calls enough in README.md (" + calls + ")", calls >= CALLS_LEAST ? 1 : 0, 1);
        check.end("README.md");
    }

    private static long call(StayWhereFell game, String name, String told) throws ReflectiveOperationException {
        String[] words = told.isEmpty() ? new String[0] : told.split(", ");
        for (Method method : StayWhereFell.class.getMethods()) {
            if (method.getName().equals(name) && method.getParameterCount() == words.length) {
                Object[] given = new Object[words.length];
                for (int i = 0; i < words.length; i++) {
                    given[i] = argument(method.getParameterTypes()[i], words[i]);
                }
                return ((Number) method.invoke(game, given)).longValue();
            }
        }
        throw new IllegalArgumentException("there is no " + name + " of " + words.length);
    }

    private static Object argument(Class<?> type, String word) {
        if (type == boolean.class) {
            return Boolean.valueOf(word);
        }
        if (type == long.class) {
            return Long.decode(word.replace("L", ""));
        }
        return Integer.decode(word);
    }

    /** A number, a sign or the name of a constant. */
    private static long number(String word) throws ReflectiveOperationException {
        if (word.startsWith("'")) {
            return word.charAt(1);
        }
        if (Character.isUpperCase(word.charAt(0))) {
            return StayWhereFell.class.getField(word).getInt(null);
        }
        return Long.parseLong(word);
    }
}
