import java.io.IOException;
import java.lang.reflect.InvocationTargetException;
import java.lang.reflect.Method;
import java.nio.file.Files;
import java.nio.file.Path;
import java.util.Set;
import java.util.TreeSet;
import java.util.regex.Matcher;
import java.util.regex.Pattern;

/** What README.md shows of the class is what it answers, and no call of the face is left out there. */
public final class ReadmeTest {
    private static final Check CHECK = new Check();
    private static final Path README = Path.of("README.md");
    private static final Pattern CALL = Pattern.compile("x\\.(\\w+)\\((.*?)\\);(?:\\s*// (\\w+).*)?");

    private final Set<String> shown = new TreeSet<>();
    private PenPage x = null;

    public static void main(String[] args) throws IOException, ReflectiveOperationException {
        String text = Files.readString(README);
        new ReadmeTest().runBlocks(text);
        tableNamesAll(text);
        CHECK.finish();
    }

    private void runBlocks(String text) throws ReflectiveOperationException {
        boolean inside = false;
        for (String line : text.split("\n")) {
            if (line.startsWith("```")) {
                inside = line.equals("```java");
            } else if (inside) {
                runLine(line);
            }
        }
        for (Method method : PenPage.class.getMethods()) {
            if (method.getDeclaringClass() == PenPage.class) {
                CHECK.yes("a block shows " + method.getName(), shown.contains(method.getName()));
            }
        }
    }

    private void runLine(String line) throws ReflectiveOperationException {
        if (line.startsWith("PenPage x = new PenPage();")) {
            x = new PenPage();
            return;
        }
        Matcher call = CALL.matcher(line);
        boolean readable = call.matches();
        CHECK.yes("a call that can be read: " + line, readable);
        if (readable) {
            shown.add(call.group(1));
            String due = call.group(3) == null ? "nothing" : call.group(3);
            String got = answer(call.group(1), call.group(2));
            CHECK.yes(line + " answered " + got, got.equals(due));
        }
    }

    private String answer(String name, String row) throws ReflectiveOperationException {
        String[] words = row.isEmpty() ? new String[0] : row.split(", ");
        Class<?>[] types = new Class<?>[words.length];
        Object[] numbers = new Object[words.length];
        for (int i = 0; i < words.length; i++) {
            types[i] = int.class;
            numbers[i] = number(words[i]);
        }
        Method method = PenPage.class.getMethod(name, types);
        try {
            Object answer = method.invoke(x, numbers);
            return tell(method, answer);
        } catch (InvocationTargetException e) {
            return e.getCause().getClass().getSimpleName();
        }
    }

    private static String tell(Method method, Object answer) {
        if (method.getReturnType() == void.class) {
            return "nothing";
        }
        return answer.equals(PenPage.NONE) ? "NONE" : answer.toString();
    }

    private static int number(String word) {
        if (word.equals("PenPage.NONE")) {
            return PenPage.NONE;
        }
        return word.startsWith("'") ? word.charAt(1) : Integer.decode(word);
    }

    private static void tableNamesAll(String text) {
        for (Method method : PenPage.class.getMethods()) {
            if (method.getDeclaringClass() == PenPage.class) {
                CHECK.yes("the table has " + method.getName(), text.contains("| `" + method.getName() + "("));
            }
        }
    }
}
