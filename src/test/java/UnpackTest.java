import java.util.ArrayList;
import java.util.HashMap;
import java.util.List;
import java.util.Map;
import java.util.Random;
import java.util.TreeSet;

/** Rebuilds the texts of pages from nothing but the codes that the class tells. */
public final class UnpackTest {
    private static final int RUNS = 3000;
    // What is left of an object's 512 calls is for the questions.
    private static final int CALLS_TO_FILL = 300;

    public static void main(String[] args) {
        int wrong = 0;
        int pages = 0;
        for (int run = 0; run < RUNS && wrong < 5; run++) {
            Unpacker unpacker = new Unpacker();
            int count = filled(run).count(0);
            for (int page = 0; page < count; page++) {
                String told = unpacker.unpack(filled(run), page);
                String text = textOf(filled(run), page);
                pages++;
                if (!told.equals(text)) {
                    wrong++;
                    System.out.println("run " + run + ", page " + page + ": the codes tell " + told + ", not " + text);
                }
            }
        }
        if (pages < RUNS) {
            wrong++;
            System.out.println("only " + pages + " pages");
        }
        System.out.println(wrong == 0 ? pages + " pages are told by their codes" : wrong + " are wrong");
        if (wrong != 0) {
            System.exit(1);
        }
    }

    /** The same object for the same run, whenever it is asked for. */
    private static Pages filled(int run) {
        Random random = new Random(run);
        Pages x = new Pages();
        TreeSet<String> rules = new TreeSet<>();
        Texts texts = new Texts(random);
        for (int more = random.nextInt(20); more > 0; more--) {
            int name = random.nextInt(6);
            int ended = random.nextInt(6);
            x.rule(name, ended, true);
            rules.add("" + "abcdef".charAt(name) + "abcdef".charAt(ended));
        }
        int left = CALLS_TO_FILL;
        for (String text = texts.page(rules); text.length() + 2 <= left; text = texts.page(rules)) {
            left -= text.length() + 2;
            x.clearText();
            for (char c : text.toCharArray()) {
                x.type(c);
            }
            x.pack();
        }
        // Rules that change, and another order, are to leave the texts as they were.
        for (int name = 0; name < 6; name++) {
            x.rule(name, random.nextInt(6), random.nextBoolean());
        }
        x.first(random.nextInt(6));
        return x;
    }

    private static String textOf(Pages x, int page) {
        StringBuilder s = new StringBuilder();
        int letter = x.charAt(page, 0);
        for (int place = 1; letter >= 0; place++) {
            s.append((char) letter);
            letter = x.charAt(page, place);
        }
        return s.toString();
    }

    /** What is known to the one who unpacks, page behind page. */
    private static final class Unpacker {
        final Map<String, List<Character>> names = new HashMap<>();
        final Map<Character, Integer> sets = new HashMap<>();
        final Map<String, Integer> values = new HashMap<>();
        final List<String> words = new ArrayList<>();
        final int[] at = new int[4];
        Pages x = new Pages();
        int page;

        int next(int row) {
            return x.code(page, row, at[row]++);
        }

        String unpack(Pages pages, int number) {
            x = pages;
            page = number;
            java.util.Arrays.fill(at, 0);
            StringBuilder s = new StringBuilder();
            List<Character> open = new ArrayList<>();
            for (int step = next(0); step >= 0; step = next(0)) {
                if (step == 0) {
                    char name = name(open.isEmpty() ? "" : "" + open.get(open.size() - 1));
                    open.add(name);
                    s.append('<').append(name).append(notes(name)).append('>');
                } else if (step == 1) {
                    s.append(word());
                } else {
                    char name = open.remove(open.size() - 1);
                    s.append(step == 2 ? "</" + name + ">" : "");
                }
            }
            for (int row = 1; row < 4; row++) {
                s.append(next(row) >= 0 ? " and more codes in row " + row : "");
            }
            return s.toString();
        }

        char name(String around) {
            List<Character> list = names.computeIfAbsent(around, k -> new ArrayList<>());
            int code = next(1);
            char name = code < list.size() ? list.remove(code) : (char) ('a' + code - list.size());
            list.add(0, name);
            return name;
        }

        String notes(char name) {
            int code = next(2);
            int set = code == 0 ? sets.getOrDefault(name, 0) : code - 1;
            sets.put(name, set);
            String left = "";
            for (int key = 0; key < 4; key++) {
                if ((set >> key & 1) == 1) {
                    String of = "" + name + key;
                    values.put(of, (values.getOrDefault(of, 0) + next(2)) % 10);
                    left += key;
                }
            }
            int orders = 1;
            for (int i = 2; i < left.length(); i++) {
                orders *= i;
            }
            int order = left.length() >= 2 ? next(2) : 0;
            StringBuilder s = new StringBuilder();
            while (!left.isEmpty()) {
                int i = order / orders;
                order %= orders;
                char key = left.charAt(i);
                left = left.substring(0, i) + left.substring(i + 1);
                orders /= Math.max(left.length(), 1);
                s.append(' ').append((char) ('w' + key - '0')).append('=').append(values.get("" + name + key));
            }
            return s.toString();
        }

        String word() {
            int code = next(3);
            String word = "";
            if (code < words.size()) {
                word = words.remove(code);
            } else {
                for (int left = next(3); left > 0; left--) {
                    word += (char) ('g' + next(3));
                }
            }
            words.add(0, word);
            return word;
        }
    }
}
