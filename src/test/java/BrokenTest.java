import java.io.ByteArrayOutputStream;
import java.io.InputStream;
import java.io.OutputStream;
import java.lang.reflect.Method;
import java.net.URI;
import java.nio.file.Files;
import java.nio.file.Path;
import java.util.ArrayList;
import java.util.HashMap;
import java.util.List;
import java.util.Map;
import java.util.concurrent.ExecutorService;
import java.util.concurrent.Executors;
import java.util.concurrent.Future;
import javax.tools.FileObject;
import javax.tools.ForwardingJavaFileManager;
import javax.tools.JavaFileManager;
import javax.tools.JavaFileObject;
import javax.tools.SimpleJavaFileObject;
import javax.tools.ToolProvider;

/** Breaks the class on purpose, sentence by sentence: the test of a broken sentence must fail. */
public final class BrokenTest {
    private static final Class<?>[] TESTS = {TermsTest.class, CallsTest.class};

    public static void main(String[] args) throws Exception {
        String source = Files.readString(Path.of("src/main/java/UnmarkedPages.java"));
        source = source.replaceAll("(?s)/\\*.*?\\*/", "").replaceAll("//[^\n]*", "").replaceAll("\\s+", " ");
        List<String> wrong = new ArrayList<>();
        int breaks = 0;
        ExecutorService threads = Executors.newFixedThreadPool(Runtime.getRuntime().availableProcessors());
        List<Future<String>> left = new ArrayList<>();
        for (Class<?> tests : TESTS) {
            for (Method m : Sentences.testsOf(tests)) {
                Broken[] of = m.getAnnotationsByType(Broken.class);
                if (of.length == 0) {
                    wrong.add(m.getName() + ": nothing is broken to try it");
                }
                for (Broken b : of) {
                    breaks++;
                    String whole = source;
                    left.add(threads.submit(() -> complaint(whole, b, tests.getName(), m.getName())));
                }
            }
        }
        for (Future<String> one : left) {
            if (!one.get().isEmpty()) {
                wrong.add(one.get());
            }
        }
        threads.shutdown();
        wrong.forEach(System.out::println);
        System.out.println(breaks + " breaks, " + wrong.size() + " of them not noticed");
        if (!wrong.isEmpty()) {
            System.exit(1);
        }
    }

    private static String complaint(String source, Broken b, String tests, String test) throws Exception {
        int at = source.indexOf(b.from());
        if (at < 0 || source.indexOf(b.from(), at + 1) >= 0) {
            return test + ": the source has this not once: " + b.from();
        }
        String broken = source.substring(0, at) + b.to() + source.substring(at + b.from().length());
        Map<String, byte[]> classes = compiled(broken);
        if (classes.isEmpty()) {
            return test + ": this does not compile: " + b.to();
        }
        // A loader of its own for each break: the tests hold what they count in static fields.
        Class<?> runner = new Loader(classes).loadClass("Sentences");
        Class<?> of = runner.getClassLoader().loadClass(tests);
        Method holds = runner.getDeclaredMethod("holds", Class.class, String.class, boolean.class);
        holds.setAccessible(true);
        boolean isMissed = (boolean) holds.invoke(null, of, test, true);
        return isMissed ? test + " did not notice: " + b.from() + " ==> " + b.to() : "";
    }

    private static Map<String, byte[]> compiled(String source) throws Exception {
        Map<String, ByteArrayOutputStream> written = new HashMap<>();
        var compiler = ToolProvider.getSystemJavaCompiler();
        JavaFileManager files = new ForwardingJavaFileManager<JavaFileManager>(
            compiler.getStandardFileManager(null, null, null)) {
            @Override
            public JavaFileObject getJavaFileForOutput(Location in, String name, JavaFileObject.Kind kind,
                FileObject near) {
                return new SimpleJavaFileObject(URI.create("mem:///" + name.replace('$', '-') + ".class"), kind) {
                    @Override
                    public OutputStream openOutputStream() {
                        ByteArrayOutputStream bytes = new ByteArrayOutputStream();
                        written.put(name, bytes);
                        return bytes;
                    }
                };
            }
        };
        JavaFileObject file = new SimpleJavaFileObject(URI.create("mem:///UnmarkedPages.java"),
            JavaFileObject.Kind.SOURCE) {
            @Override
            public CharSequence getCharContent(boolean ignored) {
                return source;
            }
        };
        Map<String, byte[]> classes = new HashMap<>();
        if (compiler.getTask(null, files, d -> { }, List.of("-proc:none"), null, List.of(file)).call()) {
            written.forEach((name, bytes) -> classes.put(name, bytes.toByteArray()));
        }
        files.close();
        return classes;
    }

    /** Loads the broken class, and the tests anew beside it. */
    private static final class Loader extends ClassLoader {
        private final Map<String, byte[]> broken;

        Loader(Map<String, byte[]> broken) {
            super(ClassLoader.getPlatformClassLoader());
            this.broken = broken;
        }

        @Override
        protected Class<?> findClass(String name) throws ClassNotFoundException {
            byte[] code = broken.get(name);
            try (InputStream in = BrokenTest.class.getResourceAsStream("/" + name + ".class")) {
                if (code == null && in != null) {
                    code = in.readAllBytes();
                }
            } catch (java.io.IOException e) {
                throw new ClassNotFoundException(name, e);
            }
            if (code == null) {
                throw new ClassNotFoundException(name);
            }
            return defineClass(name, code, 0, code.length);
        }
    }
}
