import java.lang.reflect.InvocationTargetException;
import java.lang.reflect.Method;
import java.nio.file.Files;
import java.nio.file.Path;
import java.util.ArrayList;
import java.util.Comparator;
import java.util.HashMap;
import java.util.List;
import java.util.Map;

/** Runs tests that stand for sentences of the document. */
final class Sentences {
    private Sentences() {
    }

    static List<Method> testsOf(Class<?> tests) {
        List<Method> found = new ArrayList<>();
        for (Method m : tests.getDeclaredMethods()) {
            if (m.isAnnotationPresent(Sentence.class)) {
                found.add(m);
            }
        }
        found.sort(Comparator.comparing(Method::getName));
        return found;
    }

    static void runAll(Class<?> tests) throws Exception {
        Map<String, String> sections = sections();
        int failed = 0;
        List<Method> all = testsOf(tests);
        for (Method m : all) {
            Sentence s = m.getAnnotation(Sentence.class);
            if (!sections.getOrDefault(s.in(), "").contains(s.says())) {
                failed++;
                System.out.println(m.getName() + ": the document does not say this under " + s.in());
            }
            failed += holds(tests, m.getName(), false) ? 0 : 1;
        }
        System.out.println(failed == 0 ? all.size() + " sentences hold" : failed + " sentences do not hold");
        if (failed != 0 || all.isEmpty()) {
            System.exit(1);
        }
    }

    /** Whether one test passes, on an object that is new. */
    static boolean holds(Class<?> tests, String name, boolean quiet) throws Exception {
        Checked.wrong = 0;
        Checked.quiet = quiet;
        Checked.about = name;
        Checked.fresh();
        try {
            Method m = tests.getDeclaredMethod(name);
            m.setAccessible(true);
            m.invoke(null);
        } catch (InvocationTargetException e) {
            if (!quiet) {
                e.getCause().printStackTrace(System.out);
            }
            return false;
        }
        return Checked.wrong == 0;
    }

    /** The document by its headings, each gap as one space. */
    private static Map<String, String> sections() throws Exception {
        Map<String, String> sections = new HashMap<>();
        String heading = "";
        for (String line : Files.readAllLines(Path.of("../shared/DOC.md"))) {
            if (line.startsWith("## ")) {
                heading = line.substring(3);
            } else if (line.matches("[A-Z]{4,}")) {
                heading = line;
            } else {
                sections.merge(heading, line.strip(), (a, b) -> (a + " " + b).replaceAll("\\s+", " "));
            }
        }
        return sections;
    }
}
