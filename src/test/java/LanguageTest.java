import java.io.IOException;
import java.lang.reflect.Field;
import java.lang.reflect.Member;
import java.lang.reflect.Method;
import java.lang.reflect.Modifier;
import java.nio.file.Files;
import java.nio.file.Path;
import java.util.ArrayList;
import java.util.Arrays;
import java.util.List;
import java.util.Set;
import java.util.TreeSet;
import java.util.regex.Pattern;

/** What of LANGUAGE.md a program can see: the face, sizes, and words that the rules leave out. */
public final class LanguageTest {
    private static final Check CHECK = new Check();
    private static final Path SOURCE = Path.of("src/main/java/PenPage.java");
    private static final List<String> FACE = List.of(
            "void writers(int) IllegalArgumentException", "int count(int) NoSuchElementException",
            "int page(int,int) NoSuchElementException", "int text(int,int,int) NoSuchElementException",
            "int step(int,int,int,int) NoSuchElementException", "int set(int,int,int) NoSuchElementException",
            "int strike(int,int) NoSuchElementException", "int undo(int,int) NoSuchElementException",
            "int move(int,int,int,int) NoSuchElementException", "int packet(int,int,int,int) NoSuchElementException",
            "int feed(int,int,int,int,int)", "int hear(int,int) NoSuchElementException IllegalArgumentException",
            "int fault()", "int send(int,int,int,int) NoSuchElementException",
            "int lacks(int,int,int) NoSuchElementException", "int fewest(int,int) NoSuchElementException",
            "boolean alike(int,int) NoSuchElementException", "int whose(int,int) NoSuchElementException",
            "boolean gone(int,int) NoSuchElementException", "int say(int)", "int act(int,int,int)", "void clear()",
            "int story(int) NoSuchElementException", "void image()", "boolean restore()");
    private static final List<String> FORBIDDEN = List.of("->", "::", "\\bsynchronized\\b", "\\bassert\\b", "\\bfinally\\b",
            "\\btry\\b", "\\bcatch\\b", "Exact\\b", "\\bSystem\\.(?!arraycopy)", "\\bRandom\\b", "\\bThread\\b", "\\bHashMap\\b",
            "\\bStringBuilder\\b", "\\bpackage\\b", "\\bprotected\\b", "\\bvar\\b", "\\bstatic \\{");

    public static void main(String[] args) throws IOException {
        face();
        hidden();
        for (Class<?> inside : PenPage.class.getDeclaredClasses()) {
            insideClass(inside);
        }
        sizes();
        source();
        CHECK.finish();
    }

    private static void face() {
        CHECK.yes("1: public and final", PenPage.class.getModifiers() == (Modifier.PUBLIC | Modifier.FINAL));
        Set<String> found = new TreeSet<>();
        for (Method method : PenPage.class.getDeclaredMethods()) {
            if (!Modifier.isPrivate(method.getModifiers())) {
                CHECK.yes("1: " + method + " is public", method.getModifiers() == Modifier.PUBLIC);
                found.add(tell(method));
            }
        }
        Set<String> due = new TreeSet<>(FACE);
        if (!found.equals(due)) {
            CHECK.yes("1: the face is " + found + ", due is " + due, false);
        }
        CHECK.due("1: one constructor", 1, () -> PenPage.class.getDeclaredConstructors().length);
        CHECK.due("1: of no parameters", 0, () -> PenPage.class.getConstructors()[0].getParameterCount());
    }

    private static String tell(Method method) {
        StringBuilder told = new StringBuilder(method.getReturnType().getName()).append(' ').append(method.getName());
        List<String> types = Arrays.stream(method.getParameterTypes()).map(Class::getName).toList();
        told.append('(').append(String.join(",", types)).append(')');
        for (Class<?> thrown : method.getExceptionTypes()) {
            told.append(' ').append(thrown.getSimpleName());
        }
        return told.toString();
    }

    private static void hidden() {
        Set<String> open = new TreeSet<>();
        for (Method method : PenPage.class.getMethods()) {
            open.add(method.getName());
        }
        for (Class<?> one : classes()) {
            for (Method method : one.getDeclaredMethods()) {
                if (one != PenPage.class || Modifier.isPrivate(method.getModifiers())) {
                    CHECK.yes("1: " + method + " bears another name than a public one", !open.contains(method.getName()));
                }
            }
        }
        for (Field field : PenPage.class.getDeclaredFields()) {
            boolean constant = field.getName().equals("NONE");
            CHECK.yes("1: " + field, constant ? Modifier.isPublic(field.getModifiers()) : Modifier.isPrivate(field.getModifiers()));
        }
    }

    private static void insideClass(Class<?> inside) {
        int modifiers = inside.getModifiers();
        CHECK.yes("1: " + inside + " is static", Modifier.isStatic(modifiers));
        CHECK.yes("1: " + inside + " is not open", !Modifier.isPublic(modifiers) && !Modifier.isProtected(modifiers));
    }

    private static List<Class<?>> classes() {
        List<Class<?>> classes = new ArrayList<>(List.of(PenPage.class.getDeclaredClasses()));
        classes.add(PenPage.class);
        return classes;
    }

    private static void sizes() {
        CHECK.yes("11: classes", classes().size() <= 12);
        for (Class<?> one : classes()) {
            int fields = 0;
            for (Field field : one.getDeclaredFields()) {
                boolean fixed = Modifier.isStatic(((Member) field).getModifiers());
                fields += fixed ? 0 : 1;
                CHECK.yes("5: " + field + " is final", !fixed || Modifier.isFinal(field.getModifiers()));
            }
            CHECK.yes("11: fields of " + one, fields <= 20);
            for (Method method : one.getDeclaredMethods()) {
                CHECK.yes("11: parameters of " + method, method.getParameterCount() <= 7);
            }
        }
    }

    private static void source() throws IOException {
        List<String> lines = Files.readAllLines(SOURCE);
        int begun = 0;
        String depth = "";
        for (int i = 0; i < lines.size(); i++) {
            String code = lines.get(i).replaceAll("^\\s*(/\\*\\*|\\*|//).*", "").replaceAll("\"[^\"]*\"", "\"\"");
            for (String word : FORBIDDEN) {
                if (Pattern.compile(word).matcher(code).find()) {
                    CHECK.yes("line " + (i + 1) + " has " + word, false);
                }
            }
            if (code.startsWith("import ")) {
                CHECK.yes("4: " + code, code.matches("import java\\.util\\.(Arrays|NoSuchElementException);"));
            }
            if (code.matches(" +[a-zA-Z].*\\) (throws [A-Za-z, ]+ )?\\{") && !code.matches(" +(if|for|while|switch|\\}).*")) {
                begun = i;
                depth = code.replaceAll("\\S.*", "");
            }
            if (code.equals(depth + "}")) {
                CHECK.yes("11: the method at line " + (begun + 1) + " has " + (i - begun) + " lines", i - begun <= 60);
            }
        }
    }
}
