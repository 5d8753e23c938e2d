import java.io.IOException;
import java.lang.reflect.InvocationTargetException;
import java.lang.reflect.Method;
import java.lang.reflect.Modifier;
import java.nio.file.Files;
import java.nio.file.Path;
import java.util.List;
import java.util.Set;
import java.util.TreeSet;
import java.util.regex.Matcher;
import java.util.regex.Pattern;

/** README.md: its examples answer what stands behind them, and it tells every call of the face. */
public final class ReadmeTest {
    private static final Pattern EXAMPLE = Pattern.compile("link\\.(\\w+)\\((.*)\\); +// (-?\\w+).*");
    private static final Pattern ROW = Pattern.compile("\\| `(\\w+)\\((.*?)\\)` \\|.*\\|.*\\|");

    public static void main(String[] args) throws IOException {
        List<String> lines = Files.readAllLines(Path.of("README.md"));
        examples(lines);
        everyCallIsTold(lines);
        Due.finish();
    }

    private static void examples(List<String> lines) {
        LinkDiagram link = new LinkDiagram();
        Set<String> shown = new TreeSet<>();
        for (String line : lines) {
            Matcher example = EXAMPLE.matcher(line);
            if (example.matches()) {
                shown.add(example.group(1));
                Due.yes(line, answer(link, example.group(1), words(example.group(2))).equals(example.group(3)));
            } else {
                Due.no("an example without an answer: " + line, line.startsWith("link."));
            }
        }
        Due.yes("all calls have an example: " + shown, shown.equals(names()));
    }

    private static void everyCallIsTold(List<String> lines) {
        Set<String> told = new TreeSet<>();
        for (String line : lines) {
            Matcher row = ROW.matcher(line);
            if (row.matches() && !row.group(1).equals("LinkDiagram")) {
                told.add(row.group(1));
                Due.same(line, words(row.group(2)).length, method(row.group(1)).getParameterCount());
            }
        }
        Due.yes("all calls are told: " + told, told.equals(names()));
    }

    private static String answer(LinkDiagram link, String name, String[] words) {
        Method method = method(name);
        Object[] arguments = new Object[words.length];
        for (int i = 0; i < words.length; i++) {
            boolean isInt = method.getParameterTypes()[i] == int.class;
            arguments[i] = isInt ? (Object) Integer.valueOf(words[i]) : Boolean.valueOf(words[i]);
        }
        try {
            return String.valueOf(method.invoke(link, arguments));
        } catch (IllegalAccessException | InvocationTargetException fault) {
            return fault.toString();
        }
    }

    private static String[] words(String list) {
        return list.isEmpty() ? new String[0] : list.split(", ");
    }

    private static Method method(String name) {
        for (Method method : LinkDiagram.class.getDeclaredMethods()) {
            if (method.getName().equals(name)) {
                return method;
            }
        }
        throw new IllegalArgumentException("README.md tells a call that is not there: " + name);
    }

    private static Set<String> names() {
        Set<String> names = new TreeSet<>();
        for (Method method : LinkDiagram.class.getDeclaredMethods()) {
            if (Modifier.isPublic(method.getModifiers())) {
                names.add(method.getName());
            }
        }
        return names;
    }
}
