import java.io.IOException;
import java.lang.reflect.Method;
import java.lang.reflect.Modifier;
import java.nio.file.Files;
import java.nio.file.Path;
import java.util.regex.Matcher;
import java.util.regex.Pattern;

/** What README.md shows of the class: the answers behind its example's calls, and that it names all calls. */
public final class ReadmeTest {
    private static final Pattern CALL = Pattern.compile("field\\.(\\w+)\\(([-0-9, ]*)\\); +// (\\S+)");

    private ReadmeTest() {
    }

    private static Method methodOf(String name, int arguments) {
        for (Method method : Gamefield.class.getDeclaredMethods()) {
            if (method.getName().equals(name) && method.getParameterCount() == arguments) {
                return method;
            }
        }
        throw new IllegalStateException("README.md calls " + name + " with " + arguments);
    }

    private static Object answer(Gamefield field, String name, String arguments) throws ReflectiveOperationException {
        String[] texts = arguments.isEmpty() ? new String[0] : arguments.split(", ");
        Object[] numbers = new Object[texts.length];
        for (int i = 0; i < texts.length; i++) {
            numbers[i] = Integer.valueOf(texts[i]);
        }
        return methodOf(name, texts.length).invoke(field, numbers);
    }

    private static void answersAreShown(String readme) throws ReflectiveOperationException {
        Checks.about("the example of README.md");
        Gamefield field = new Gamefield();
        int shown = 0;
        for (String line : readme.split("\n")) {
            if (line.startsWith("field.")) {
                Matcher call = CALL.matcher(line);
                Checks.due("a call and its answer in: " + line, call.matches(), true);
                if (call.matches()) {
                    shown++;
                    String got = String.valueOf(answer(field, call.group(1), call.group(2)));
                    Checks.due(line, got, call.group(3));
                }
            }
        }
        Checks.due("how many answers are shown", shown > 0, true);
    }

    private static void callsAreNamed(String readme) {
        Checks.about("the calls in README.md");
        for (Method method : Gamefield.class.getDeclaredMethods()) {
            if (Modifier.isPublic(method.getModifiers())) {
                String name = "`" + method.getName() + "`";
                Checks.due("whether it names " + name, readme.contains(name), true);
            }
        }
    }

    public static void main(String[] args) throws IOException, ReflectiveOperationException {
        String readme = Files.readString(Path.of("README.md"));
        answersAreShown(readme);
        callsAreNamed(readme);
        Checks.finish("ReadmeTest");
    }
}
