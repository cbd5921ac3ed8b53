import java.io.IOException;
import java.lang.reflect.Method;
import java.lang.reflect.Modifier;
import java.nio.file.Files;
import java.nio.file.Path;
import java.util.Set;
import java.util.TreeSet;
import java.util.regex.Matcher;
import java.util.regex.Pattern;

/** The examples of README.md, as one run on one object: each call answers what its comment says. */
public final class ReadmeTest {
    private static final Pattern FED = Pattern.compile("for \\(char letter : \"(.*)\"\\.toCharArray\\(\\)\\) \\{");
    private static final Pattern CALL = Pattern.compile("stove\\.(\\w+)\\(([^)]*)\\);\\s+// ([-\\w]+): .+");
    private static final Checks checks = new Checks("ReadmeTest");
    private static final Set<String> shown = new TreeSet<>();

    private static StoveFavours stove = null;

    public static void main(String[] args) throws IOException, ReflectiveOperationException {
        boolean code = false;
        for (String line : Files.readAllLines(Path.of("README.md"))) {
            if (line.startsWith("```")) {
                code = line.equals("```java");
            } else if (code) {
                follow(line.strip());
            }
        }
        everyCallIsShown();
        checks.finish();
    }

    private static void follow(String line) throws ReflectiveOperationException {
        Matcher fed = FED.matcher(line);
        Matcher call = CALL.matcher(line);
        if (line.equals("StoveFavours stove = new StoveFavours();")) {
            stove = new StoveFavours();
        } else if (fed.matches()) {
            checks.feedAll(stove, fed.group(1));
            shown.add("feed");
        } else if (call.matches()) {
            ask(call.group(1), call.group(2), number(call.group(3)));
        } else {
            // the inside and the end of the loop that feeds
            checks.due("a line that is understood: " + line, line.startsWith("stove.feed(letter);") || line.equals("}") ? 1 : 0, 1);
        }
    }

    private static void ask(String name, String list, int due) throws ReflectiveOperationException {
        String[] words = list.isEmpty() ? new String[0] : list.split(", ");
        Class<?>[] kinds = new Class<?>[words.length];
        Object[] numbers = new Object[words.length];
        for (int k = 0; k < words.length; k++) {
            kinds[k] = int.class;
            numbers[k] = number(words[k]);
        }
        Method method = StoveFavours.class.getMethod(name, kinds);
        checks.due(name + "(" + list + ")", (Integer) method.invoke(stove, numbers), due);
        shown.add(name);
    }

    /** A number, or a constant of the class by its name. */
    private static int number(String word) throws ReflectiveOperationException {
        if (word.matches("-?[0-9]+")) {
            return Integer.parseInt(word);
        }
        return StoveFavours.class.getField(word.replace("StoveFavours.", "")).getInt(null);
    }

    private static void everyCallIsShown() {
        for (Method method : StoveFavours.class.getDeclaredMethods()) {
            if (Modifier.isPublic(method.getModifiers())) {
                checks.due("an example of " + method.getName(), shown.contains(method.getName()) ? 1 : 0, 1);
            }
        }
    }
}
