import java.io.IOException;
import java.lang.reflect.Constructor;
import java.lang.reflect.Field;
import java.lang.reflect.Method;
import java.lang.reflect.Modifier;
import java.nio.file.Files;
import java.nio.file.Path;
import java.util.Arrays;
import java.util.List;
import java.util.Set;
import java.util.TreeSet;
import java.util.regex.Matcher;
import java.util.regex.Pattern;
import java.util.stream.Collectors;

/** The rules of LANGUAGE.md that can be read off the source's words and the class's members. */
public final class LanguageTest {
    private static final Set<String> FACE = new TreeSet<>(List.of(
        "months(int)", "decree(int,int,int)", "force(int,int,int)", "rate(int,int)", "child(int)",
        "fate(int,int,int)", "told(int,int,boolean)", "deposit(int,int,int,int,int)", "about(int,int)",
        "as(int,int)", "sell(int,int)", "holder(int,int)", "due(int,int,int)", "foretold(int)", "income(int)",
        "purse(int)", "paid(int)", "lives(int,int,int,int)", "value(int,int,int)", "left(int,int)", "tell(int)",
        "check()", "count(int)", "found(int)"));
    private static final List<String> NOT_ALLOWED = List.of(
        "\\b(throw|throws|try|catch|finally|synchronized|assert|package|volatile|transient|native)\\b",
        "->", "::", "@", "\\w+Exact\\b", "\\b(MAX_VALUE|MIN_VALUE)\\b", "\\bSystem\\.(?!arraycopy\\b)",
        "\\b(hashCode|toString|Object|Class|Thread|Random)\\b", "\\bstatic\\s*\\{", "\\bvar\\b");
    private static final int MOST_CLASSES = 12;
    private static final int MOST_FIELDS = 20;
    private static final int MOST_PARAMETERS = 7;
    private static final int MOST_LINES = 60;

    private static int wrong = 0;

    public static void main(String[] args) throws IOException {
        String source = Files.readString(Path.of("src/main/java/DowryFund.java"));
        words(source);
        imports(source);
        methodLengths(source);
        face();
        members();
        if (wrong != 0) {
            System.exit(1);
        }
    }

    private static void fault(String text) {
        wrong++;
        System.out.println(text);
    }

    private static void words(String source) {
        if (source.chars().anyMatch(c -> c > 126 || c < 32 && c != '\n')) {
            fault("a sign that isn't plain");
        }
        String code = source.replaceAll("(?s)/\\*.*?\\*/", " ").replaceAll("//[^\n]*", " ");
        for (String pattern : NOT_ALLOWED) {
            Matcher m = Pattern.compile(pattern).matcher(code);
            if (m.find()) {
                fault("not allowed: " + m.group());
            }
        }
    }

    private static void imports(String source) {
        Matcher m = Pattern.compile("(?m)^import (.*);$").matcher(source);
        while (m.find()) {
            if (!Set.of("java.util.Arrays", "java.util.ArrayList", "java.util.List").contains(m.group(1))) {
                fault("imports " + m.group(1));
            }
        }
    }

    /** A method's first line ends with an opened brace, its last is a brace as far in. */
    private static void methodLengths(String source) {
        Pattern method = Pattern.compile("(?m)^( +)[\\w\\[\\] ]+\\([^;\n]*\\) \\{$");
        String[] lines = source.split("\n");
        for (int i = 0; i < lines.length; i++) {
            Matcher m = method.matcher(lines[i]);
            if (!m.find()) {
                continue;
            }
            int end = i;
            while (end < lines.length && !lines[end].equals(m.group(1) + "}")) {
                end++;
            }
            if (end - i + 1 > MOST_LINES) {
                fault("too long: " + lines[i].trim());
            }
        }
    }

    private static String signature(Method m) {
        return m.getName() + Arrays.stream(m.getParameterTypes()).map(Class::getName)
            .collect(Collectors.joining(",", "(", ")"));
    }

    private static void face() {
        Class<?> c = DowryFund.class;
        if (c.getModifiers() != (Modifier.PUBLIC | Modifier.FINAL)) {
            fault("the class isn't public and final alone");
        }
        Set<String> open = new TreeSet<>();
        for (Method m : c.getDeclaredMethods()) {
            if (Modifier.isPrivate(m.getModifiers())) {
                continue;
            }
            open.add(signature(m));
            if (m.getReturnType() != long.class || m.getModifiers() != Modifier.PUBLIC) {
                fault("isn't a public long: " + m);
            }
        }
        if (!open.equals(FACE)) {
            fault("the face is " + open);
        }
        Constructor<?>[] constructors = c.getDeclaredConstructors();
        if (constructors.length != 1 || constructors[0].getParameterCount() != 0
                || constructors[0].getModifiers() != Modifier.PUBLIC) {
            fault("the constructor isn't as told");
        }
        for (Field f : c.getDeclaredFields()) {
            if (!Modifier.isPrivate(f.getModifiers())) {
                fault("isn't private: " + f);
            }
        }
    }

    private static void members() {
        Set<String> names = FACE.stream().map(s -> s.substring(0, s.indexOf('('))).collect(Collectors.toSet());
        Class<?>[] inside = DowryFund.class.getDeclaredClasses();
        if (inside.length + 1 > MOST_CLASSES) {
            fault("too many classes: " + inside.length);
        }
        checkMembers(DowryFund.class, names);
        for (Class<?> c : inside) {
            if (!Modifier.isStatic(c.getModifiers()) || Modifier.isPublic(c.getModifiers())) {
                fault("isn't static, or is public: " + c);
            }
            checkMembers(c, names);
        }
    }

    private static void checkMembers(Class<?> c, Set<String> names) {
        int fields = 0;
        for (Field f : c.getDeclaredFields()) {
            fields += Modifier.isStatic(f.getModifiers()) ? 0 : 1;
            if (Modifier.isStatic(f.getModifiers()) && !Modifier.isFinal(f.getModifiers())) {
                fault("static and not final: " + f);
            }
        }
        if (fields > MOST_FIELDS) {
            fault("too many fields: " + c);
        }
        for (Method m : c.getDeclaredMethods()) {
            if (m.getParameterCount() > MOST_PARAMETERS) {
                fault("too many parameters: " + m);
            }
            if (!Modifier.isPublic(m.getModifiers()) && names.contains(m.getName())) {
                fault("bears the name of a public one: " + m);
            }
        }
    }
}
