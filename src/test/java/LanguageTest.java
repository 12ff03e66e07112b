import java.lang.reflect.Array;
import java.lang.reflect.Field;
import java.lang.reflect.Method;
import java.lang.reflect.Modifier;
import java.nio.file.Files;
import java.nio.file.Path;
import java.util.ArrayDeque;
import java.util.Arrays;
import java.util.Collections;
import java.util.Deque;
import java.util.IdentityHashMap;
import java.util.Set;
import java.util.TreeSet;
import java.util.regex.Matcher;
import java.util.regex.Pattern;

/** The public face, the room that an object takes, and the rules of LANGUAGE.md that the source shows. */
public final class LanguageTest {
    private static final String[] FACE = {"int bits(int, int)", "int charAt(int, int)", "int clearText()",
        "int code(int, int, int)", "int count(int)", "int fault(int)", "int first(int)", "int keep()",
        "int known(int, int)", "int latest(int, int)", "int pack()", "int path(int, int)", "int restore()",
        "int rule(int, int, boolean)", "int type(char)", "int undo()", "int unpackLast()", "int wouldTake(boolean)"};
    private static final String[] BANNED = {"throw", "throws", "try", "catch", "finally", "synchronized", "assert",
        "import", "package", "protected", "native", "volatile", "instanceof", "equals", "hashCode", "toString",
        "Object", "System", "Exception", "Character", "Long", "var", "yield", "record", "enum", "interface",
        "String", "StringBuilder", "List", "ArrayList"};
    private static final String[] BANNED_SIGNS = {"->", "::", "@", "\"", "?>", "while (true)", "for (;;)"};

    private static int wrong = 0;

    public static void main(String[] args) throws Exception {
        face();
        constants();
        for (Class<?> inside : UnmarkedPages.class.getDeclaredClasses()) {
            inside(inside);
        }
        wrongIf(UnmarkedPages.class.getDeclaredClasses().length > 11, "too many classes");
        source();
        headings();
        depth();
        room();
        System.out.println(wrong == 0 ? "the face and the language are kept" : wrong + " rules are broken");
        if (wrong != 0) {
            System.exit(1);
        }
    }

    private static void wrongIf(boolean is, String what) {
        if (is) {
            wrong++;
            System.out.println(what);
        }
    }

    private static void face() {
        Class<?> c = UnmarkedPages.class;
        wrongIf(c.getModifiers() != (Modifier.PUBLIC | Modifier.FINAL), "the class is not public and final");
        wrongIf(c.getDeclaredConstructors().length != 1, "more than one constructor");
        wrongIf(c.getDeclaredConstructors()[0].getModifiers() != Modifier.PUBLIC, "the constructor is not public");
        wrongIf(c.getDeclaredConstructors()[0].getParameterCount() != 0, "the constructor takes something");
        Set<String> told = new TreeSet<>();
        for (Method m : c.getDeclaredMethods()) {
            if (Modifier.isPrivate(m.getModifiers())) {
                continue;
            }
            wrongIf(m.getModifiers() != Modifier.PUBLIC, m + " is neither public nor private");
            String types = Arrays.toString(m.getParameterTypes()).replace("[", "(").replace("]", ")");
            told.add(m.getReturnType() + " " + m.getName() + types);
        }
        wrongIf(!told.equals(new TreeSet<>(Arrays.asList(FACE))), "the face is " + told);
        privateNames(c);
    }

    /** No private method may bear the name of a public one. */
    private static void privateNames(Class<?> c) {
        for (Method m : c.getDeclaredMethods()) {
            for (String of : FACE) {
                boolean same = of.startsWith("int " + m.getName() + "(");
                wrongIf(same && !Modifier.isPublic(m.getModifiers()), m + " bears a name of the face");
            }
            wrongIf(m.getParameterCount() > 7, m + " takes too much");
        }
    }

    private static void constants() throws Exception {
        String[] names = {"UNKNOWN", "BAD_VALUE", "FULL", "NOT_POSSIBLE", "NONE"};
        for (int i = 0; i < names.length; i++) {
            Field f = UnmarkedPages.class.getDeclaredField(names[i]);
            wrongIf(f.getModifiers() != (Modifier.PUBLIC | Modifier.STATIC | Modifier.FINAL), f + " is no constant");
            wrongIf(f.getType() != int.class || f.getInt(null) != -1 - i, f + " has a wrong value");
        }
        for (Field f : UnmarkedPages.class.getDeclaredFields()) {
            boolean isTold = Arrays.asList(names).contains(f.getName());
            wrongIf(!isTold && !Modifier.isPrivate(f.getModifiers()), f + " is not private");
        }
        fields(UnmarkedPages.class);
    }

    private static void inside(Class<?> c) {
        wrongIf(!Modifier.isStatic(c.getModifiers()), c + " is not static");
        wrongIf(!Modifier.isPrivate(c.getModifiers()), c + " is not private");
        wrongIf(c.getDeclaredClasses().length > 0, c + " has classes inside");
        privateNames(c);
        fields(c);
    }

    private static void fields(Class<?> c) {
        int own = 0;
        for (Field f : c.getDeclaredFields()) {
            boolean isStatic = Modifier.isStatic(f.getModifiers());
            own += isStatic ? 0 : 1;
            wrongIf(isStatic && (!Modifier.isFinal(f.getModifiers()) || f.getType() != int.class), f + " is static");
        }
        wrongIf(own > 20, c + " has too many fields");
    }

    private static void source() throws Exception {
        String code = Files.readString(Path.of("src/main/java/UnmarkedPages.java"));
        code = code.replaceAll("(?s)/\\*.*?\\*/", "").replaceAll("//[^\n]*", "").replaceAll("'.'", "0");
        for (int i = 0; i < code.length(); i++) {
            wrongIf(code.charAt(i) > 126, "a sign above 126 at " + i);
        }
        for (String word : BANNED) {
            wrongIf(Pattern.compile("\\b" + word + "\\b").matcher(code).find(), word + " is in the source");
        }
        for (String sign : BANNED_SIGNS) {
            wrongIf(code.contains(sign), sign + " is in the source");
        }
        Matcher library = Pattern.compile("\\b(Integer|Math)\\.(\\w+)").matcher(code);
        while (library.find()) {
            wrongIf(!Set.of("max", "min", "bitCount").contains(library.group(2)), library.group() + " is used");
        }
        methodLengths(code);
    }

    private static void methodLengths(String code) {
        int methods = 0;
        int from = -1;
        int line = 0;
        for (String text : code.split("\n")) {
            line++;
            if (text.matches(" {4}( {4})?[\\w\\[\\]. ]+\\([^=;]*\\) \\{")) {
                from = line;
            } else if (from > 0 && text.matches(" {4}( {4})?\\}")) {
                wrongIf(line - from > 60, "a method has " + (line - from) + " lines");
                from = -1;
                methods++;
            }
        }
        wrongIf(methods < 60, "only " + methods + " methods were found");
    }

    /** The lines that the document wants ahead of calls, and the calls in its order. */
    private static void headings() throws Exception {
        String code = Files.readString(Path.of("src/main/java/UnmarkedPages.java"));
        String told = Files.readString(Path.of("../shared/DOC.md"));
        Matcher line = Pattern.compile("Ahead of the calls (.*) the interface says: (---- .*)\\.\n").matcher(told);
        int at = 0;
        int calls = 0;
        while (line.find()) {
            int heading = code.indexOf("    // " + line.group(2) + "\n", at);
            wrongIf(heading < at, line.group(2) + " is not in its place");
            at = Math.max(heading, at);
            for (String name : line.group(1).replace("`", "").split(", ")) {
                int call = code.indexOf("    public int " + name + "(", at);
                wrongIf(call < at, name + " is not in its place");
                wrongIf(code.substring(at, Math.max(call, at)).indexOf("// ----", 9) > 0, name + " is under another line");
                at = Math.max(call, at);
                calls++;
            }
        }
        wrongIf(calls != FACE.length, "the document tells lines ahead of " + calls + " calls");
    }

    private static void depth() throws Exception {
        CallDepth calls = new CallDepth("src/main/java/UnmarkedPages.java");
        wrongIf(calls.methods() < 80, "only " + calls.methods() + " methods were found");
        System.out.println("calls go " + calls.deepest() + " deep");
        wrongIf(calls.deepest() < 4 || calls.deepest() > 8, "calls go too deep, or were not found");
    }

    /** What one object holds, then and behind many calls: all rows are made once. */
    private static void room() throws Exception {
        UnmarkedPages x = new UnmarkedPages();
        long[] fresh = held(x);
        for (int i = 0; i < 14; i++) {
            x.clearText();
            for (char c : "<a w=1><b>hi<c></c></b></a>".toCharArray()) {
                x.type(c);
            }
            x.rule(i % 6, i % 5, true);
            x.pack();
            x.keep();
            x.first(1);
            x.restore();
            x.undo();
        }
        long[] later = held(x);
        System.out.println("an object holds " + later[0] + " objects and " + later[1] + " fields and elements");
        wrongIf(!Arrays.equals(fresh, later), "an object grows from " + Arrays.toString(fresh));
        wrongIf(later[0] > 1000 || later[1] > 25000, "an object is too large");
    }

    private static long[] held(Object root) throws Exception {
        Set<Object> seen = Collections.newSetFromMap(new IdentityHashMap<>());
        Deque<Object> left = new ArrayDeque<>();
        left.add(root);
        long size = 0;
        while (!left.isEmpty()) {
            Object o = left.remove();
            if (!seen.add(o)) {
                continue;
            }
            if (o.getClass().isArray()) {
                size += Array.getLength(o);
                for (int i = 0; i < Array.getLength(o) && !o.getClass().getComponentType().isPrimitive(); i++) {
                    left.add(Array.get(o, i));
                }
                continue;
            }
            for (Field f : o.getClass().getDeclaredFields()) {
                if (Modifier.isStatic(f.getModifiers())) {
                    continue;
                }
                size++;
                f.setAccessible(true);
                if (!f.getType().isPrimitive()) {
                    left.add(f.get(o));
                }
            }
        }
        return new long[] {seen.size(), size};
    }
}
