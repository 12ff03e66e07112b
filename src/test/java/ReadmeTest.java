import java.io.ByteArrayOutputStream;
import java.io.IOException;
import java.io.PrintStream;
import java.lang.reflect.InvocationTargetException;
import java.lang.reflect.Method;
import java.lang.reflect.Modifier;
import java.net.URL;
import java.net.URLClassLoader;
import java.nio.file.Files;
import java.nio.file.Path;
import java.util.ArrayList;
import java.util.Comparator;
import java.util.List;
import java.util.Set;
import java.util.TreeSet;
import java.util.regex.Matcher;
import java.util.regex.Pattern;
import java.util.stream.Stream;
import javax.tools.ToolProvider;

/** What README.md says: its example prints what it shows, and it names the calls, the tests and how they are run. */
public final class ReadmeTest {
    private static int wrong = 0;

    public static void main(String[] args) throws Exception {
        String page = Files.readString(Path.of("README.md"));
        example(page);
        calls(page);
        tests(page);
        System.out.println(wrong == 0 ? "README.md is right" : wrong + " things in README.md are wrong");
        if (wrong != 0) {
            System.exit(1);
        }
    }

    private static void wrongIf(boolean is, String what) {
        if (is) {
            wrong++;
            System.out.println(what);
        }
    }

    /** The first block of a kind, between its fences. */
    private static String block(String page, String kind) {
        Matcher m = Pattern.compile("(?s)```" + kind + "\n(.*?)```").matcher(page);
        boolean isThere = m.find();
        wrongIf(!isThere, "README.md has no block of " + kind);
        return isThere ? m.group(1) : "";
    }

    private static void example(String page) throws Exception {
        Path folder = Files.createTempDirectory("readme");
        try {
            Path source = folder.resolve("Example.java");
            Files.writeString(source, block(page, "java"));
            // The two files that the page tells, without any of the tests.
            int failed = ToolProvider.getSystemJavaCompiler().run(null, System.out, System.out, "-d",
                folder.toString(), "src/main/java/UnmarkedPages.java", source.toString());
            wrongIf(failed != 0, "the example does not compile");
            String want = block(page, "text");
            String got = failed == 0 ? printed(folder) : "";
            wrongIf(!got.equals(want), "the example prints\n" + got + "and README.md says\n" + want);
        } finally {
            remove(folder);
        }
    }

    private static String printed(Path folder) throws Exception {
        PrintStream before = System.out;
        ByteArrayOutputStream out = new ByteArrayOutputStream();
        URL[] where = {folder.toUri().toURL()};
        try (URLClassLoader loader = new URLClassLoader(where, ClassLoader.getPlatformClassLoader());
            PrintStream caught = new PrintStream(out, true, "UTF-8")) {
            System.setOut(caught);
            loader.loadClass("Example").getMethod("main", String[].class).invoke(null, (Object) new String[0]);
        } catch (InvocationTargetException e) {
            return "nothing but " + e.getCause() + "\n";
        } finally {
            System.setOut(before);
        }
        return out.toString("UTF-8").replace("\r\n", "\n");
    }

    private static void remove(Path folder) throws IOException {
        List<Path> all = new ArrayList<>();
        try (Stream<Path> found = Files.walk(folder)) {
            found.sorted(Comparator.reverseOrder()).forEach(all::add);
        }
        for (Path one : all) {
            Files.delete(one);
        }
    }

    private static void calls(String page) {
        for (Method m : UnmarkedPages.class.getDeclaredMethods()) {
            boolean isTold = page.contains("`" + m.getName() + "`");
            wrongIf(Modifier.isPublic(m.getModifiers()) && !isTold, "README.md does not name " + m.getName());
        }
    }

    private static void tests(String page) throws Exception {
        String how = page.substring(Math.max(page.indexOf("## How to run its tests"), 0));
        wrongIf(!how.contains("\n    .ci/run\n"), "README.md does not say how the tests are run");
        wrongIf(!Files.isExecutable(Path.of(".ci/run")), ".ci/run cannot be run");
        Set<String> named = new TreeSet<>();
        Matcher m = Pattern.compile("`(\\w+Test)`").matcher(how);
        while (m.find()) {
            named.add(m.group(1));
        }
        Set<String> there = new TreeSet<>();
        try (Stream<Path> files = Files.list(Path.of("src/test/java"))) {
            files.map(f -> f.getFileName().toString()).filter(f -> f.endsWith("Test.java"))
                .forEach(f -> there.add(f.substring(0, f.length() - ".java".length())));
        }
        wrongIf(!named.equals(there), "README.md names " + named + ", and there are " + there);
    }
}
