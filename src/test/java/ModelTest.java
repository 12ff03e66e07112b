import java.util.ArrayList;
import java.util.Arrays;
import java.util.List;
import java.util.Random;

/** Long runs of calls, the same ones each time, on the class and on the model beside it. */
public final class ModelTest {
    private static final int RUNS = 3000;
    private static final int CALLS = 512;
    private static final int[] ODD = {Integer.MIN_VALUE, -1000000, -7, -2, -1, 6, 7, 8, 9, 10, 99, 100, 101,
        127, 128, 255, 256, 65536, 1 << 30, Integer.MAX_VALUE - 1, Integer.MAX_VALUE};

    private static final String SIGNS = "<>/= abcdefghijklmnopqrstuvwxyz0123456789A~\u0000\uffff";

    private final Random random;
    private final List<String> calls = new ArrayList<>();
    private UnmarkedPages x = new UnmarkedPages();
    private Model model = new Model();
    private boolean isWrong;
    // Pages that were packed, those with implied closings, those that came to a full row, texts
    // that were packed where there was no room, and then faults by their kinds.
    private final int[] met = new int[11];

    private ModelTest(long seed) {
        random = new Random(seed);
    }

    public static void main(String[] args) {
        int wrong = 0;
        int[] met = new int[11];
        for (int run = 0; run < RUNS && wrong < 5; run++) {
            ModelTest test = new ModelTest(run);
            test.go();
            for (int i = 0; i < met.length; i++) {
                met[i] += test.met[i];
            }
            if (test.isWrong) {
                wrong++;
            }
        }
        // Runs that pack next to nothing would prove next to nothing.
        if (Arrays.stream(met).min().getAsInt() < RUNS / 10) {
            System.out.println("the runs are too poor: " + Arrays.toString(met));
            wrong++;
        }
        System.out.println(wrong == 0 ? "all runs agree " + Arrays.toString(met) : wrong + " runs are wrong");
        if (wrong != 0) {
            System.exit(1);
        }
    }

    private void go() {
        int style = random.nextInt(4);
        for (int left = random.nextInt(30); left > 0; left--) {
            call(0);
        }
        while (calls.size() < CALLS && !isWrong) {
            if (random.nextInt(3) == 0) {
                typeText(style);
            } else {
                call(random.nextInt(19));
            }
        }
    }

    private void typeText(int style) {
        clear();
        String t = random.nextInt(5) == 0 ? somePath() : somePage(style);
        if (random.nextInt(4) == 0) {
            t = spoilt(t);
        }
        for (int i = 0; i < t.length() && !isWrong; i++) {
            type(t.charAt(i));
        }
        same("fault(0)", x.fault(0), model.fault(0));
        same("fault(1)", x.fault(1), model.fault(1));
        same("fault(2)", x.fault(2), model.fault(2));
        int implied = model.count(6);
        int answer = model.pack();
        same("pack()", x.pack(), answer);
        met[0] += answer >= 0 ? 1 : 0;
        met[1] += answer >= 0 && model.count(6) > implied ? 1 : 0;
        met[2] += answer >= 0 && model.count(0) == 6 ? 1 : 0;
        met[3] += answer == Model.FULL ? 1 : 0;
        if (answer <= -100) {
            met[4 + model.fault(1)]++;
        }
    }

    private String spoilt(String t) {
        StringBuilder s = new StringBuilder(t);
        for (int left = 1 + random.nextInt(2); left > 0; left--) {
            int at = random.nextInt(s.length() + 1);
            char c = SIGNS.charAt(random.nextInt(SIGNS.length()));
            switch (random.nextInt(4)) {
                case 0 -> s.insert(at, c);
                case 1 -> s.setLength(at);
                case 2 -> s.replace(at, Math.min(at + 1, s.length()), "" + c);
                default -> s.delete(at, Math.min(at + 1 + random.nextInt(3), s.length()));
            }
        }
        return s.toString();
    }

    private String somePath() {
        StringBuilder s = new StringBuilder();
        int names = 1 + random.nextInt(3);
        for (int parts = 1 + random.nextInt(4); parts > 0; parts--) {
            s.append((char) ('a' + random.nextInt(names)));
            if (random.nextInt(3) == 0) {
                s.append((char) ('0' + random.nextInt(random.nextInt(8) == 0 ? 10 : 4)));
            }
            s.append(parts > 1 || random.nextInt(10) == 0 ? "/" : "");
        }
        return s.toString();
    }

    /** Openings, words and closings as they come, which are a page only by chance. */
    private String someSoup() {
        int names = 1 + random.nextInt(6);
        int openings = 2 + random.nextInt(5);
        StringBuilder s = new StringBuilder();
        for (int parts = 3 + random.nextInt(12); parts > 0; parts--) {
            char name = (char) ('a' + random.nextInt(names));
            int kind = s.isEmpty() ? 2 : random.nextInt(openings + 2);
            s.append(kind == 0 ? someWord() : kind == 1 ? "</" + name + ">" : "<" + name + ">");
        }
        return s.toString();
    }

    private String somePage(int style) {
        if (random.nextInt(6) == 0) {
            return someSoup();
        }
        int names = 1 + random.nextInt(6);
        int deepest = random.nextInt(12) == 0 ? 7 : 2 + random.nextInt(5);
        int[] left = {random.nextInt(random.nextInt(3) == 0 ? 96 : 50)};
        return printed(someBox(null, names, deepest, left, style), '-');
    }

    private Model.Box someBox(Model.Box around, int names, int deeper, int[] left, int style) {
        Model.Box box = new Model.Box();
        box.name = (char) ('a' + random.nextInt(names));
        // The outermost box is never ended, so what stands in it may have any name.
        boolean mayEnd = around != null && around.place > 0;
        for (int tries = 4; tries > 0 && mayEnd && ends(box.name, around.name); tries--) {
            box.name = (char) ('a' + random.nextInt(names));
        }
        box.place = around == null ? 0 : 1;
        left[0] -= 7;
        String keys = "wxyz";
        int notes = style == 0 ? 0 : random.nextInt(style == 1 ? 2 : 5);
        for (; notes > 0 && left[0] > 0 && !keys.isEmpty(); notes--) {
            int at = random.nextInt(keys.length());
            box.keys += keys.charAt(at);
            box.digits += random.nextInt(10);
            left[0] -= 4;
            // A key is to come twice now and then.
            if (random.nextInt(25) != 0) {
                keys = keys.substring(0, at) + keys.substring(at + 1);
            }
        }
        boolean wasWord = false;
        for (int parts = random.nextInt(12); parts > 0 && left[0] > 0; parts--) {
            if (!wasWord && random.nextBoolean()) {
                box.inside.add(someWord());
                left[0] -= 2;
                wasWord = true;
            } else if (deeper > 1) {
                box.inside.add(someBox(box, names, deeper - 1, left, style));
                wasWord = false;
            }
        }
        return box;
    }

    private String someWord() {
        StringBuilder s = new StringBuilder();
        int letters = random.nextInt(4) == 0 ? 1 + random.nextInt(9) : 1 + random.nextInt(2);
        for (int left = letters; left > 0; left--) {
            s.append((char) ('g' + random.nextInt(random.nextBoolean() ? 3 : 16)));
        }
        return s.toString();
    }

    /** Leaves closings out where the name that comes next, or that of the next closing, ends the box. */
    private String printed(Model.Box box, char ender) {
        StringBuilder s = new StringBuilder("<").append(box.name);
        for (int i = 0; i < box.keys.length(); i++) {
            s.append(' ').append(box.keys.charAt(i)).append('=').append(box.digits.charAt(i));
        }
        s.append('>');
        boolean implied = ends(ender, box.name) && random.nextInt(5) != 0;
        char end = implied ? ender : box.name;
        for (int i = 0; i < box.inside.size(); i++) {
            Object part = box.inside.get(i);
            if (part instanceof Model.Box inside) {
                boolean isLast = i + 1 == box.inside.size();
                Object next = isLast ? null : box.inside.get(i + 1);
                char by = next instanceof Model.Box behind ? behind.name : '-';
                boolean byClosing = isLast && (implied || end != inside.name);
                s.append(printed(inside, byClosing ? end : by));
            } else {
                s.append(part);
            }
        }
        return implied ? s.toString() : s.append("</").append(box.name).append('>').toString();
    }

    private boolean ends(char name, char ended) {
        return model.now.rules().contains("" + name + ended);
    }

    private int some(int most) {
        return random.nextInt(12) == 0 ? ODD[random.nextInt(ODD.length)] : random.nextInt(most + 1);
    }

    private void clear() {
        same("clearText()", x.clearText(), model.clearText());
    }

    private void type(char c) {
        same("type(" + (int) c + ")", x.type(c), model.type(c));
    }

    private void call(int which) {
        int a = some(6);
        int b = some(6);
        int c = some(40);
        boolean is = random.nextInt(4) != 0;
        switch (which) {
            case 0, 1 -> same("rule " + a + " " + b + " " + is, x.rule(a, b, is), model.rule(a, b, is));
            case 2 -> same("pack()", x.pack(), model.pack());
            case 3 -> {
                if (random.nextInt(3) == 0) {
                    same("unpackLast()", x.unpackLast(), model.unpackLast());
                }
            }
            case 4 -> same("first " + a, x.first(a), model.first(a));
            case 5 -> type((char) random.nextInt(random.nextBoolean() ? 128 : 65536));
            case 6 -> same("undo()", x.undo(), model.undo());
            case 7 -> {
                if (random.nextInt(3) == 0) {
                    same("keep()", x.keep(), model.keep());
                }
            }
            case 8 -> {
                if (random.nextInt(3) == 0) {
                    same("restore()", x.restore(), model.restore());
                }
            }
            case 9 -> same("charAt " + a + " " + c, x.charAt(a, c), model.charAt(a, c));
            case 10 -> same("code " + a + " " + b + " " + c, x.code(a, b, c), model.code(a, b, c));
            case 11 -> same("bits " + a + " " + b, x.bits(a, b), model.bits(a, b));
            case 12 -> same("wouldTake " + is, x.wouldTake(is), model.wouldTake(is));
            case 13 -> {
                clear();
                for (char letter : somePath().toCharArray()) {
                    type(letter);
                }
                for (int what = -1; what <= 6; what++) {
                    same("path " + a + " " + what, x.path(a, what), model.path(a, what));
                }
            }
            case 14 -> same("known " + a + " " + b, x.known(a, b), model.known(a, b));
            case 15 -> same("latest " + a + " " + b, x.latest(a, b), model.latest(a, b));
            case 16 -> same("count " + c, x.count(c), model.count(c));
            case 17 -> allCounts();
            default -> same("fault " + a, x.fault(a), model.fault(a));
        }
    }

    private void allCounts() {
        for (int what = 0; what <= 8; what++) {
            same("count " + what, x.count(what), model.count(what));
        }
    }

    private void same(String call, int got, int due) {
        calls.add(call);
        if (got != due && calls.size() <= CALLS && !isWrong) {
            isWrong = true;
            System.out.println(String.join("; ", calls));
            System.out.println("text " + model.text + ": " + call + " answered " + got + ", due is " + due);
        }
    }
}
