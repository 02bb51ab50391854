import java.io.IOException;
import java.lang.reflect.Field;
import java.lang.reflect.Method;
import java.lang.reflect.Modifier;
import java.nio.file.Files;
import java.nio.file.Path;
import java.util.Arrays;
import java.util.List;
import java.util.Set;
import java.util.TreeSet;
import java.util.regex.Matcher;
import java.util.regex.Pattern;
import java.util.stream.Collectors;

/** The face of the document, and those rules of LANGUAGE.md that can be seen without reading closely. */
public final class LanguageTest {
    private static final Path SOURCE = Path.of("src/main/java/StreamWeave.java");
    private static final Set<String> FACE = new TreeSet<>(List.of("say(int)", "wipe()", "line()", "fault()",
        "written(int,int,int)", "told(int,int)", "packet(int,int,int)", "held(int,int)", "frame(int,int,int)",
        "sent(int)", "most(int)", "needs()", "room(int)", "without(int)", "image(int)", "restore(int)",
        "count(int)"));
    private static final String[] RULED_OUT = {"\\b(throw|throws|try|catch|synchronized|assert)\\b", "->", "::",
        "\\w+Exact\\b", "\\bstatic\\s*\\{", "\\b(double|float)\\b", "\\b(equals|hashCode|toString)\\b",
        "\"\\s*\\+|\\+\\s*\"", "^import (?!java\\.util\\.Arrays;)", "^package", "\\bMath\\.(?!max|min)",
        "[^\\x00-\\x7f]"};
    private static int wrong = 0;

    public static void main(String[] args) throws IOException {
        face();
        nested(StreamWeave.class);
        source(Files.readString(SOURCE));
        System.out.println(wrong == 0 ? "all rules are kept" : wrong + " rules are broken");
        if (wrong != 0) {
            System.exit(1);
        }
    }

    private static void rule(boolean kept, String what) {
        if (!kept) {
            wrong++;
            System.out.println(what);
        }
    }

    private static String signature(Method method) {
        return method.getName() + Arrays.stream(method.getParameterTypes()).map(Class::getSimpleName)
            .collect(Collectors.joining(",", "(", ")"));
    }

    private static void face() {
        Set<String> open = new TreeSet<>();
        Set<String> names = new TreeSet<>();
        for (Method method : StreamWeave.class.getDeclaredMethods()) {
            if (!Modifier.isPrivate(method.getModifiers())) {
                open.add(signature(method));
                names.add(method.getName());
                rule(method.getReturnType() == int.class, method + " does not answer an int");
                rule(method.getModifiers() == Modifier.PUBLIC, method + " is not just public");
            }
        }
        rule(open.equals(FACE), "the methods are " + open + ", due are " + FACE);
        for (Class<?> some : StreamWeave.class.getDeclaredClasses()) {
            privateNames(some, names);
        }
        privateNames(StreamWeave.class, names);
        rule(Modifier.isFinal(StreamWeave.class.getModifiers()), "the class is not final");
        rule(StreamWeave.class.getConstructors().length == 1, "there is not one constructor");
        rule(StreamWeave.class.getDeclaredConstructors().length == 1, "there are hidden constructors");
        fields();
    }

    private static void privateNames(Class<?> some, Set<String> names) {
        for (Method method : some.getDeclaredMethods()) {
            boolean face = some == StreamWeave.class && Modifier.isPublic(method.getModifiers());
            rule(face || !names.contains(method.getName()), method + " bears the name of a public one");
        }
    }

    private static void fields() {
        Set<String> open = new TreeSet<>();
        for (Field field : StreamWeave.class.getDeclaredFields()) {
            if (!Modifier.isPrivate(field.getModifiers())) {
                open.add(field.getName());
            }
        }
        Set<String> want = new TreeSet<>(List.of("OUTSIDE", "STATE", "FULL", "NONE", "FAULT"));
        rule(open.equals(want), "the open fields are " + open);
    }

    private static void nested(Class<?> outer) {
        Class<?>[] inside = outer.getDeclaredClasses();
        rule(inside.length < 12, "there are too many classes");
        for (Class<?> some : inside) {
            rule(Modifier.isStatic(some.getModifiers()), some + " is not static");
            rule(!Modifier.isPublic(some.getModifiers()), some + " is public");
            int own = 0;
            for (Field field : some.getDeclaredFields()) {
                boolean isStatic = Modifier.isStatic(field.getModifiers());
                rule(!isStatic || Modifier.isFinal(field.getModifiers()), field + " is static state");
                own += isStatic ? 0 : 1;
            }
            rule(own <= 20, some + " has too many fields");
        }
    }

    private static void source(String text) {
        String code = Pattern.compile("/\\*.*?\\*/", Pattern.DOTALL).matcher(text.replaceAll("//.*", ""))
            .replaceAll("");
        for (String pattern : RULED_OUT) {
            Matcher matcher = Pattern.compile(pattern, Pattern.MULTILINE).matcher(code);
            if (matcher.find()) {
                rule(false, "ruled out: '" + matcher.group() + "' by " + pattern);
            }
        }
        int length = 0;
        for (String row : code.split("\n")) {
            length = row.matches("    (    )?\\}") ? 0 : length + 1;
            rule(length <= 70, "a method is too long near: " + row);
        }
    }
}
