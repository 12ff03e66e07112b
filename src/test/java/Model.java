import java.util.ArrayList;
import java.util.Collections;
import java.util.HashMap;
import java.util.List;
import java.util.Map;
import java.util.TreeSet;

/** The document written down a second time, by other means: trees, strings, maps and exceptions. */
final class Model {
    static final int UNKNOWN = -1;
    static final int BAD_VALUE = -2;
    static final int FULL = -3;
    static final int NOT_POSSIBLE = -4;
    static final int NONE = -5;

    static final class Fault extends Exception {
        private static final long serialVersionUID = 1L;
        final int place;
        final int kind;
        final int cause;

        Fault(int place, int kind, int cause) {
            this.place = place;
            this.kind = kind;
            this.cause = cause;
        }
    }

    static final class Box {
        char name;
        int place;
        String keys = "";
        String digits = "";
        List<Object> inside = new ArrayList<>();
        boolean implied;

        List<Box> boxes() {
            List<Box> found = new ArrayList<>();
            for (Object o : inside) {
                if (o instanceof Box) {
                    found.add((Box) o);
                }
            }
            return found;
        }

        List<String> words() {
            List<String> found = new ArrayList<>();
            for (Object o : inside) {
                if (o instanceof String) {
                    found.add((String) o);
                }
            }
            return found;
        }
    }

    record Sheet(String text, Box root) { }

    record Moment(TreeSet<String> rules, List<Sheet> pages) { }

    static final class Parser {
        final String t;
        final TreeSet<String> rules;
        int p;

        Parser(String t, TreeSet<String> rules) {
            this.t = t;
            this.rules = rules;
        }

        char at(int i) throws Fault {
            if (i >= t.length()) {
                throw new Fault(t.length(), 0, NONE);
            }
            return t.charAt(i);
        }

        char oneOf(int i, String allowed) throws Fault {
            char c = at(i);
            if (allowed.indexOf(c) < 0) {
                throw new Fault(i, 1, NONE);
            }
            return c;
        }

        Box page() throws Fault {
            oneOf(0, "<");
            oneOf(1, "abcdef");
            Box root = box(1);
            if (p < t.length()) {
                throw new Fault(p, 6, NONE);
            }
            return root;
        }

        Box box(int depth) throws Fault {
            Box box = new Box();
            box.place = p;
            box.name = t.charAt(p + 1);
            if (depth > 6) {
                throw new Fault(p, 4, NONE);
            }
            p += 2;
            List<Integer> places = new ArrayList<>();
            while (oneOf(p, " >") == ' ') {
                char key = oneOf(p + 1, "wxyz");
                int earlier = box.keys.indexOf(key);
                if (earlier >= 0) {
                    throw new Fault(p + 1, 2, places.get(earlier));
                }
                places.add(p + 1);
                box.keys += key;
                oneOf(p + 2, "=");
                box.digits += oneOf(p + 3, "0123456789");
                p += 4;
            }
            p++;
            content(box, depth);
            return box;
        }

        void content(Box box, int depth) throws Fault {
            while (true) {
                char c = oneOf(p, "<ghijklmnopqrstuv");
                if (c != '<') {
                    int from = p;
                    while (p < t.length() && t.charAt(p) >= 'g' && t.charAt(p) <= 'v') {
                        p++;
                    }
                    if (p - from > 8) {
                        throw new Fault(from + 8, 5, NONE);
                    }
                    box.inside.add(t.substring(from, p));
                    continue;
                }
                char next = oneOf(p + 1, "/abcdef");
                char n = next == '/' ? oneOf(p + 2, "abcdef") : next;
                boolean own = next == '/' && n == box.name;
                if (!own && depth > 1 && rules.contains("" + n + box.name)) {
                    box.implied = true;
                    return;
                }
                if (next != '/') {
                    box.inside.add(box(depth + 1));
                } else if (own) {
                    oneOf(p + 3, ">");
                    p += 4;
                    return;
                } else {
                    throw new Fault(p + 2, 3, box.place);
                }
            }
        }
    }

    /** What is known, and the four rows of the page that was packed last. */
    static final class Packer {
        final Map<String, List<String>> around = new HashMap<>();
        final Map<String, Integer> values = new HashMap<>();
        final Map<Character, Integer> sets = new HashMap<>();
        final List<String> words = new ArrayList<>();
        List<List<Integer>> rows;

        void pack(Box root) {
            rows = new ArrayList<>();
            for (int i = 0; i < 4; i++) {
                rows.add(new ArrayList<>());
            }
            box(root, "none");
        }

        void box(Box b, String outer) {
            rows.get(0).add(0);
            List<String> list = around.computeIfAbsent(outer, k -> new ArrayList<>());
            String name = "" + b.name;
            rows.get(1).add(list.contains(name) ? list.indexOf(name) : list.size() + "abcdef".indexOf(name));
            list.remove(name);
            list.add(0, name);
            notes(b);
            for (Object o : b.inside) {
                if (o instanceof Box) {
                    box((Box) o, name);
                } else {
                    rows.get(0).add(1);
                    word((String) o);
                }
            }
            rows.get(0).add(b.implied ? 3 : 2);
        }

        void notes(Box b) {
            int set = setOf(b);
            rows.get(2).add(sets.getOrDefault(b.name, 0) == set ? 0 : set + 1);
            sets.put(b.name, set);
            for (char key = 'w'; key <= 'z'; key++) {
                int at = b.keys.indexOf(key);
                if (at >= 0) {
                    int value = b.digits.charAt(at) - '0';
                    String of = "" + b.name + key;
                    rows.get(2).add((value - values.getOrDefault(of, 0) + 10) % 10);
                    values.put(of, value);
                }
            }
            if (b.keys.length() >= 2) {
                TreeSet<String> orders = new TreeSet<>();
                permute("", b.keys, orders);
                rows.get(2).add(orders.headSet(b.keys).size());
            }
        }

        static void permute(String done, String left, TreeSet<String> into) {
            if (left.isEmpty()) {
                into.add(done);
            }
            for (int i = 0; i < left.length(); i++) {
                permute(done + left.charAt(i), left.substring(0, i) + left.substring(i + 1), into);
            }
        }

        void word(String w) {
            int at = words.indexOf(w);
            if (at >= 0) {
                rows.get(3).add(at);
                words.remove(at);
            } else {
                rows.get(3).add(words.size());
                rows.get(3).add(w.length());
                for (char c : w.toCharArray()) {
                    rows.get(3).add(c - 'g');
                }
            }
            words.add(0, w);
        }

        int bits(int row) {
            if (row == 4) {
                return bits(0) + bits(1) + bits(2) + bits(3);
            }
            int sum = 0;
            for (int code : rows.get(row)) {
                sum += row == 0 ? 2 : 2 * (Integer.toBinaryString(code + 1).length() - 1) + 1;
            }
            return sum;
        }
    }

    static int setOf(Box b) {
        int set = 0;
        for (int i = 0; i < 4; i++) {
            if (b.keys.indexOf("wxyz".charAt(i)) >= 0) {
                set += 1 << i;
            }
        }
        return set;
    }

    String text = "";
    Moment now = new Moment(new TreeSet<>(), new ArrayList<>());
    final List<Moment> history = new ArrayList<>();
    Moment snapshot;

    static Moment copy(Moment m) {
        return new Moment(new TreeSet<>(m.rules()), new ArrayList<>(m.pages()));
    }

    void act() {
        history.add(copy(now));
        if (history.size() > 4) {
            history.remove(0);
        }
    }

    /** What is known behind the first pages, with the rows of the last one of these. */
    Packer behind(int pages) {
        Packer packer = new Packer();
        for (Sheet s : now.pages().subList(0, pages)) {
            packer.pack(s.root());
        }
        return packer;
    }

    boolean has(int page) {
        return page >= 0 && page < now.pages().size();
    }

    int allBits() {
        int sum = 0;
        for (int i = 1; i <= now.pages().size(); i++) {
            sum += behind(i).bits(4);
        }
        return sum;
    }

    int rule(int name, int ended, boolean is) {
        if (name < 0 || name > 5 || ended < 0 || ended > 5) {
            return UNKNOWN;
        }
        String rule = "" + "abcdef".charAt(name) + "abcdef".charAt(ended);
        if (now.rules().contains(rule) == is) {
            return NONE;
        }
        act();
        if (is) {
            now.rules().add(rule);
        } else {
            now.rules().remove(rule);
        }
        return now.rules().size();
    }

    int pack() {
        Box root;
        try {
            root = new Parser(text, now.rules()).page();
        } catch (Fault f) {
            return -100 - f.place;
        }
        if (now.pages().size() == 6) {
            return FULL;
        }
        act();
        now.pages().add(new Sheet(text, root));
        return behind(now.pages().size()).bits(4);
    }

    int unpackLast() {
        if (now.pages().isEmpty()) {
            return NOT_POSSIBLE;
        }
        act();
        now.pages().remove(now.pages().size() - 1);
        return now.pages().size();
    }

    int first(int page) {
        if (!has(page)) {
            return UNKNOWN;
        }
        if (page == 0) {
            return NONE;
        }
        int before = allBits();
        act();
        Collections.rotate(now.pages().subList(0, page + 1), 1);
        return before - allBits() + 10000;
    }

    int type(char c) {
        if (text.length() == 100) {
            return FULL;
        }
        text += c;
        return text.length();
    }

    int clearText() {
        int length = text.length();
        text = "";
        return length;
    }

    int fault(int what) {
        if (what < 0 || what > 2) {
            return BAD_VALUE;
        }
        try {
            new Parser(text, now.rules()).page();
            return NONE;
        } catch (Fault f) {
            return what == 0 ? f.place : what == 1 ? f.kind : f.cause;
        }
    }

    int undo() {
        if (history.isEmpty()) {
            return NONE;
        }
        now = history.remove(history.size() - 1);
        return history.size();
    }

    int keep() {
        snapshot = copy(now);
        return now.pages().size();
    }

    int restore() {
        if (snapshot == null) {
            return NONE;
        }
        act();
        now = copy(snapshot);
        return now.pages().size();
    }

    int charAt(int page, int place) {
        if (!has(page)) {
            return UNKNOWN;
        }
        if (place < 0) {
            return BAD_VALUE;
        }
        String t = now.pages().get(page).text();
        return place < t.length() ? t.charAt(place) : NONE;
    }

    int code(int page, int row, int place) {
        if (!has(page)) {
            return UNKNOWN;
        }
        if (row < 0 || row > 3 || place < 0) {
            return BAD_VALUE;
        }
        List<Integer> codes = behind(page + 1).rows.get(row);
        return place < codes.size() ? codes.get(place) : NONE;
    }

    int bits(int page, int row) {
        if (!has(page)) {
            return UNKNOWN;
        }
        return row < 0 || row > 4 ? BAD_VALUE : behind(page + 1).bits(row);
    }

    int wouldTake(boolean alone) {
        try {
            Box root = new Parser(text, now.rules()).page();
            Packer packer = behind(alone ? 0 : now.pages().size());
            packer.pack(root);
            return packer.bits(4);
        } catch (Fault f) {
            return -100 - f.place;
        }
    }

    /** The length of the longest beginning of the text that some path begins with. */
    static int pathFault(String t) {
        if (t.matches("[a-f][1-9]?(/[a-f][1-9]?)*")) {
            return -1;
        }
        int good = 0;
        while (good < t.length() && t.substring(0, good + 1).matches("([a-f][1-9]?/)*([a-f][1-9]?)?")) {
            good++;
        }
        return good;
    }

    int path(int page, int what) {
        if (!has(page)) {
            return UNKNOWN;
        }
        if (what < 0 || what > 5) {
            return BAD_VALUE;
        }
        int fault = pathFault(text);
        if (fault >= 0) {
            return -100 - fault;
        }
        Box outer = new Box();
        outer.inside.add(now.pages().get(page).root());
        String[] parts = text.split("/");
        Box at = outer;
        for (String part : parts) {
            int number = part.length() > 1 ? part.charAt(1) - '0' : 1;
            Box next = null;
            for (Box b : at.boxes()) {
                if (b.name == part.charAt(0) && --number == 0) {
                    next = b;
                }
            }
            if (next == null) {
                return NONE;
            }
            at = next;
        }
        switch (what) {
            case 0: return at.place;
            case 1: return at.words().size();
            case 2: return at.boxes().size();
            case 3: return setOf(at);
            case 4: return at.words().isEmpty() ? NONE : at.words().get(0).length();
            default: return parts.length;
        }
    }

    int known(int name, int rank) {
        if (name < 0 || name > 6) {
            return UNKNOWN;
        }
        if (rank < 0) {
            return BAD_VALUE;
        }
        String outer = name == 6 ? "none" : "" + "abcdef".charAt(name);
        List<String> list = behind(now.pages().size()).around.getOrDefault(outer, new ArrayList<>());
        return rank < list.size() ? "abcdef".indexOf(list.get(rank)) : NONE;
    }

    int latest(int name, int key) {
        if (name < 0 || name > 5 || key < 0 || key > 3) {
            return UNKNOWN;
        }
        String of = "" + "abcdef".charAt(name) + "wxyz".charAt(key);
        return behind(now.pages().size()).values.getOrDefault(of, NONE);
    }

    int count(int what) {
        int letters = 0;
        int boxes = 0;
        int implied = 0;
        for (int i = 0; i < now.pages().size(); i++) {
            letters += now.pages().get(i).text().length();
            List<Integer> steps = behind(i + 1).rows.get(0);
            boxes += Collections.frequency(steps, 0);
            implied += Collections.frequency(steps, 3);
        }
        switch (what) {
            case 0: return now.pages().size();
            case 1: return now.rules().size();
            case 2: return allBits();
            case 3: return letters;
            case 4: return behind(now.pages().size()).words.size();
            case 5: return boxes;
            case 6: return implied;
            case 7: return history.size();
            case 8: return text.length();
            default: return BAD_VALUE;
        }
    }
}
