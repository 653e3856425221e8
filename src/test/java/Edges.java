import java.io.IOException;
import java.lang.reflect.InvocationTargetException;
import java.lang.reflect.Method;
import java.nio.file.Files;
import java.nio.file.Path;
import java.util.Arrays;
import java.util.Comparator;

/** Runs every test of a class that says which words of the document it holds. */
final class Edges {
    private static final Path DOCUMENT = Path.of("../shared/DOC.md");
    private static int held = 0;
    private static int wrong = 0;
    private static String words = "";

    private Edges() {
    }

    static void due(String call, long got, long want) {
        held++;
        if (got == want) return;
        wrong++;
        System.out.println("\"" + words + "\": " + call + " answered " + got + ", due is " + want);
    }

    static void runAll(Class<?> tests) throws ReflectiveOperationException, IOException {
        Method[] methods = tests.getDeclaredMethods();
        Arrays.sort(methods, Comparator.comparing(Method::getName));
        String document = Files.isReadable(DOCUMENT) ? plain(Files.readString(DOCUMENT)) : "";
        int run = 0;
        for (Method method : methods) {
            Says says = method.getAnnotation(Says.class);
            if (says == null) continue;
            words = says.value();
            // Told only: a document that is written anew is no fault of the program.
            if (!document.isEmpty() && !document.contains(plain(words))) System.out.println("not in the document: " + words);
            runOne(method);
            run++;
        }
        System.out.println(tests.getName() + ": " + run + " sentences, " + (wrong == 0 ? "all hold" : wrong + " answers are not as due"));
        if (wrong != 0 || run == 0) System.exit(1);
    }

    private static void runOne(Method method) throws ReflectiveOperationException {
        int before = held;
        try {
            method.invoke(null);
        } catch (InvocationTargetException e) {
            wrong++;
            System.out.println("\"" + words + "\": " + e.getCause());
        }
        if (held > before) return;
        wrong++;
        System.out.println("\"" + words + "\": " + method.getName() + " holds nothing");
    }

    private static String plain(String text) {
        return text.replaceAll("\\s+", " ");
    }
}
