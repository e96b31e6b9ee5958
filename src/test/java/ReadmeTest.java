import java.io.IOException;
import java.lang.reflect.Method;
import java.lang.reflect.Modifier;
import java.nio.file.Files;
import java.nio.file.Path;
import java.util.ArrayList;
import java.util.List;
import java.util.Set;
import java.util.TreeSet;
import java.util.regex.Matcher;
import java.util.regex.Pattern;

/** Makes the calls of README.md in their order on one object; each answers what stands behind it there. */
public final class ReadmeTest {
    private static final Pattern BLOCK = Pattern.compile("(?s)```java\n(.*?)```");
    private static final Pattern CALL = Pattern.compile("game\\.(\\w+)\\((.*?)\\); +// (-?\\d+)\\b.*");
    private static final String NEW_GAME = "HostileHouses game = new HostileHouses();";
    private static final int FEWEST_CALLS = 30;

    private static int wrong;

    private static void wrong(String what) {
        wrong++;
        System.out.println("README.md: " + what);
    }

    private static List<String> lines(String readme) {
        List<String> lines = new ArrayList<>();
        Matcher blocks = BLOCK.matcher(readme);
        while (blocks.find()) {
            blocks.group(1).lines().filter(line -> !line.isBlank()).forEach(lines::add);
        }
        return lines;
    }

    private static Method method(String name) {
        for (Method method : HostileHouses.class.getMethods()) {
            if (method.getName().equals(name) && method.getDeclaringClass() == HostileHouses.class) {
                return method;
            }
        }
        throw new IllegalArgumentException("no method " + name);
    }

    private static Object argument(String text, Class<?> type) throws ReflectiveOperationException {
        if (text.startsWith("HostileHouses.")) {
            return HostileHouses.class.getField(text.substring(text.indexOf('.') + 1)).get(null);
        }
        long number = Long.decode(text.endsWith("L") ? text.substring(0, text.length() - 1) : text);
        return type == long.class ? (Object) number : (Object) (int) number;
    }

    private static int answer(HostileHouses game, String name, String arguments) throws ReflectiveOperationException {
        Method method = method(name);
        String[] texts = arguments.isEmpty() ? new String[0] : arguments.split(", *");
        Object[] values = new Object[texts.length];
        for (int index = 0; index < texts.length; index++) {
            values[index] = argument(texts[index], method.getParameterTypes()[index]);
        }
        return (Integer) method.invoke(game, values);
    }

    private static void calls(List<String> lines) throws ReflectiveOperationException {
        HostileHouses game = new HostileHouses();
        int calls = 0;
        for (String line : lines) {
            Matcher call = CALL.matcher(line);
            if (call.matches()) {
                calls++;
                int answer = answer(game, call.group(1), call.group(2));
                if (answer != Integer.parseInt(call.group(3))) {
                    wrong(line + "\n  answered " + answer);
                }
            } else if (!line.equals(NEW_GAME)) {
                wrong(line + "\n  is no call with its answer");
            }
        }
        if (calls < FEWEST_CALLS) {
            wrong("just " + calls + " calls");
        }
    }

    private static void everyMethodIsTold(String readme) {
        Set<String> names = new TreeSet<>();
        for (Method method : HostileHouses.class.getDeclaredMethods()) {
            if (Modifier.isPublic(method.getModifiers()) && !readme.contains("`" + method.getName() + "(")) {
                names.add(method.getName());
            }
        }
        if (!names.isEmpty()) {
            wrong("does not tell of " + names);
        }
    }

    public static void main(String[] args) throws IOException, ReflectiveOperationException {
        String readme = Files.readString(Path.of("README.md"));
        calls(lines(readme));
        everyMethodIsTold(readme);
        System.out.println(wrong == 0 ? "README.md tells what is so" : wrong + " things are not as README.md tells");
        if (wrong != 0) {
            System.exit(1);
        }
    }
}
