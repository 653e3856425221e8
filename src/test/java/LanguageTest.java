import java.io.IOException;
import java.lang.reflect.Constructor;
import java.lang.reflect.Field;
import java.lang.reflect.Method;
import java.lang.reflect.Modifier;
import java.nio.file.Files;
import java.nio.file.Path;
import java.util.HashSet;
import java.util.Set;
import java.util.TreeSet;
import java.util.regex.Matcher;
import java.util.regex.Pattern;

/** What can be looked at of LANGUAGE.md's rules and of the document's face, in the source and in the class. */
public final class LanguageTest {
    private static final Path SOURCE = Path.of("src/main/java/SameStar.java");
    private static final String[] NEVER = {
        "throw", "throws", "try", "catch", "synchronized", "assert", "package", "protected", "volatile", "native", "transient", "equals", "hashCode",
        "toString", "System.out", "System.nanoTime", "currentTimeMillis", "Random", "Exact", "->", "::", "HashMap", "Object", "Exception", "Thread",
    };
    private static final int MOST_CLASSES = 12, MOST_FIELDS = 20, MOST_PARAMETERS = 7, MOST_LINES = 60;
    private static final Dues DUES = new Dues("LanguageTest");

    public static void main(String[] args) throws IOException {
        String source = Files.readString(SOURCE);
        String code = source.replaceAll("(?s)/\\*.*?\\*/", "").replaceAll("//[^\n]*", "");
        for (String never : NEVER) {
            boolean word = Character.isLetter(never.charAt(0)) && !never.equals("Exact");
            Matcher m = Pattern.compile(word ? "\\b" + Pattern.quote(never) + "\\b" : Pattern.quote(never)).matcher(code);
            DUES.due("the source: '" + never + "'", m.find() ? 1 : 0, 0);
        }
        DUES.due("signs above 126", source.chars().filter(c -> c > 126).count(), 0);
        imports(code);
        face();
        classes();
        methodLengths(code);
        DUES.end();
    }

    private static void imports(String code) {
        Matcher m = Pattern.compile("(?m)^import (.*);").matcher(code);
        Set<String> all = new TreeSet<>();
        while (m.find()) all.add(m.group(1));
        DUES.due("imports " + all, all.equals(Set.of("java.util.Arrays")) ? 1 : 0, 1);
    }

    private static void face() {
        Class<?> star = SameStar.class;
        DUES.due("public final", star.getModifiers() & (Modifier.PUBLIC | Modifier.FINAL), Modifier.PUBLIC | Modifier.FINAL);
        DUES.due("constructors", star.getDeclaredConstructors().length, 1);
        for (Constructor<?> c : star.getConstructors()) DUES.due("constructor's parameters", c.getParameterCount(), 0);
        Set<String> names = new HashSet<>();
        for (Method m : star.getDeclaredMethods()) {
            if (Modifier.isPublic(m.getModifiers())) names.add(m.getName());
        }
        DUES.due("public methods", names.size(), 42);
        for (Method m : star.getDeclaredMethods()) {
            if (m.isSynthetic() || Modifier.isPublic(m.getModifiers())) continue;
            DUES.due("private, by another name: " + m.getName(), Modifier.isPrivate(m.getModifiers()) && !names.contains(m.getName()) ? 1 : 0, 1);
        }
        for (Class<?> c : star.getDeclaredClasses()) {
            for (Method m : c.getDeclaredMethods()) DUES.due(c.getSimpleName() + "." + m.getName() + " has a public name", names.contains(m.getName()) ? 1 : 0, 0);
        }
        Set<String> constants = new TreeSet<>();
        for (Field f : star.getDeclaredFields()) {
            if (Modifier.isPublic(f.getModifiers())) constants.add(f.getName());
            else DUES.due("private field " + f.getName(), Modifier.isPrivate(f.getModifiers()) ? 1 : 0, 1);
        }
        DUES.due("constants " + constants, constants.equals(Set.of("BAD", "NOT", "FULL", "STATE", "VOID")) ? 1 : 0, 1);
    }

    private static void classes() {
        Class<?>[] inside = SameStar.class.getDeclaredClasses();
        DUES.due("classes " + (inside.length + 1), inside.length + 1 <= MOST_CLASSES ? 1 : 0, 1);
        for (Class<?> c : inside) {
            DUES.due("static " + c.getSimpleName(), Modifier.isStatic(c.getModifiers()) ? 1 : 0, 1);
            fieldsAndParameters(c);
        }
        fieldsAndParameters(SameStar.class);
    }

    private static void fieldsAndParameters(Class<?> c) {
        int fields = 0;
        for (Field f : c.getDeclaredFields()) {
            if (Modifier.isStatic(f.getModifiers())) DUES.due("final static " + f.getName(), Modifier.isFinal(f.getModifiers()) ? 1 : 0, 1);
            else fields++;
        }
        DUES.due("fields of " + c.getSimpleName() + ": " + fields, fields <= MOST_FIELDS ? 1 : 0, 1);
        for (Method m : c.getDeclaredMethods()) DUES.due("parameters of " + m.getName(), m.getParameterCount() <= MOST_PARAMETERS ? 1 : 0, 1);
        for (Constructor<?> m : c.getDeclaredConstructors()) DUES.due("parameters of " + c.getSimpleName(), m.getParameterCount() <= MOST_PARAMETERS ? 1 : 0, 1);
    }

    // A method begins with a line that ends in '{' and has brackets, and ends with a bracket as far in.
    private static void methodLengths(String code) {
        String[] lines = code.split("\n");
        for (int i = 0; i < lines.length; i++) {
            Matcher m = Pattern.compile("^( {4}| {8})(?! )[^=]*\\) \\{$").matcher(lines[i]);
            if (!m.find() || lines[i].trim().startsWith("if") || lines[i].trim().startsWith("for")) continue;
            int end = i;
            while (end < lines.length && !lines[end].equals(m.group(1) + "}")) end++;
            DUES.due(lines[i].trim() + " has " + (end - i) + " lines", end - i <= MOST_LINES ? 1 : 0, 1);
        }
    }
}
