import java.util.Random;
import java.util.Set;

/** Texts for long runs of calls: pages, paths, and such that are nearly pages. */
final class Texts {
    private static final String SIGNS = "<>/= abcdefghijklmnopqrstuvwxyz0123456789A~\u0000\uffff";

    private final Random random;
    private Set<String> rules = Set.of();

    Texts(Random random) {
        this.random = random;
    }

    String spoilt(String t) {
        StringBuilder s = new StringBuilder(t);
        for (int left = 1 + random.nextInt(2); left > 0; left--) {
            int at = random.nextInt(s.length() + 1);
            char c = SIGNS.charAt(random.nextInt(SIGNS.length()));
            switch (random.nextInt(4)) {
                case 0 -> s.insert(at, c);
                case 1 -> s.setLength(at);
                case 2 -> s.replace(at, Math.min(at + 1, s.length()), "" + c);
                default -> s.delete(at, Math.min(at + 1 + random.nextInt(3), s.length()));
            }
        }
        return s.toString();
    }

    String path() {
        StringBuilder s = new StringBuilder();
        int names = 1 + random.nextInt(3);
        for (int parts = 1 + random.nextInt(4); parts > 0; parts--) {
            s.append((char) ('a' + random.nextInt(names)));
            if (random.nextInt(3) == 0) {
                s.append((char) ('0' + random.nextInt(random.nextInt(8) == 0 ? 10 : 4)));
            }
            s.append(parts > 1 || random.nextInt(10) == 0 ? "/" : "");
        }
        return s.toString();
    }

    /** Openings, words and closings as they come, which are a page only by chance. */
    private String someSoup() {
        int names = 1 + random.nextInt(6);
        int openings = 2 + random.nextInt(5);
        StringBuilder s = new StringBuilder();
        for (int parts = 3 + random.nextInt(12); parts > 0; parts--) {
            char name = (char) ('a' + random.nextInt(names));
            int kind = s.isEmpty() ? 2 : random.nextInt(openings + 2);
            s.append(kind == 0 ? someWord() : kind == 1 ? "</" + name + ">" : "<" + name + ">");
        }
        return s.toString();
    }

    String page(Set<String> rulesNow) {
        rules = rulesNow;
        int style = random.nextInt(4);
        if (random.nextInt(6) == 0) {
            return someSoup();
        }
        int names = 1 + random.nextInt(6);
        int deepest = random.nextInt(12) == 0 ? 7 : 2 + random.nextInt(5);
        int[] left = {random.nextInt(random.nextInt(3) == 0 ? 96 : 50)};
        return printed(someBox(null, names, deepest, left, style), '-');
    }

    private Model.Box someBox(Model.Box around, int names, int deeper, int[] left, int style) {
        Model.Box box = new Model.Box();
        box.name = (char) ('a' + random.nextInt(names));
        // The outermost box is never ended, so what stands in it may have any name.
        boolean mayEnd = around != null && around.place > 0;
        for (int tries = 4; tries > 0 && mayEnd && ends(box.name, around.name); tries--) {
            box.name = (char) ('a' + random.nextInt(names));
        }
        box.place = around == null ? 0 : 1;
        left[0] -= 7;
        String keys = "wxyz";
        int notes = style == 0 ? 0 : random.nextInt(style == 1 ? 2 : 5);
        for (; notes > 0 && left[0] > 0 && !keys.isEmpty(); notes--) {
            int at = random.nextInt(keys.length());
            box.keys += keys.charAt(at);
            box.digits += random.nextInt(10);
            left[0] -= 4;
            // A key is to come twice now and then.
            if (random.nextInt(25) != 0) {
                keys = keys.substring(0, at) + keys.substring(at + 1);
            }
        }
        boolean wasWord = false;
        for (int parts = random.nextInt(12); parts > 0 && left[0] > 0; parts--) {
            if (!wasWord && random.nextBoolean()) {
                box.inside.add(someWord());
                left[0] -= 2;
                wasWord = true;
            } else if (deeper > 1) {
                box.inside.add(someBox(box, names, deeper - 1, left, style));
                wasWord = false;
            }
        }
        return box;
    }

    private String someWord() {
        StringBuilder s = new StringBuilder();
        int letters = random.nextInt(4) == 0 ? 1 + random.nextInt(9) : 1 + random.nextInt(2);
        for (int left = letters; left > 0; left--) {
            s.append((char) ('g' + random.nextInt(random.nextBoolean() ? 3 : 16)));
        }
        return s.toString();
    }

    /** Leaves closings out where the name that comes next, or that of the next closing, ends the box. */
    private String printed(Model.Box box, char ender) {
        StringBuilder s = new StringBuilder("<").append(box.name);
        for (int i = 0; i < box.keys.length(); i++) {
            s.append(' ').append(box.keys.charAt(i)).append('=').append(box.digits.charAt(i));
        }
        s.append('>');
        boolean implied = ends(ender, box.name) && random.nextInt(5) != 0;
        char end = implied ? ender : box.name;
        for (int i = 0; i < box.inside.size(); i++) {
            Object part = box.inside.get(i);
            if (part instanceof Model.Box inside) {
                boolean isLast = i + 1 == box.inside.size();
                Object next = isLast ? null : box.inside.get(i + 1);
                char by = next instanceof Model.Box behind ? behind.name : '-';
                boolean byClosing = isLast && (implied || end != inside.name);
                s.append(printed(inside, byClosing ? end : by));
            } else {
                s.append(part);
            }
        }
        return implied ? s.toString() : s.append("</").append(box.name).append('>').toString();
    }

    private boolean ends(char name, char ended) {
        return rules.contains("" + name + ended);
    }
}
