import java.util.ArrayList;
import java.util.Arrays;
import java.util.List;
import java.util.Random;

/** Long runs of calls, the same ones each time, on the class and on the model beside it. */
public final class ModelTest {
    private static final int RUNS = 3000;
    private static final int CALLS = 512;
    private static final int[] ODD = {Integer.MIN_VALUE, -1000000, -7, -2, -1, 6, 7, 8, 9, 10, 99, 100, 101,
        127, 128, 255, 256, 65536, 1 << 30, Integer.MAX_VALUE - 1, Integer.MAX_VALUE};

    private final Random random;
    private final Texts texts;
    private final List<String> calls = new ArrayList<>();
    private UnmarkedPages x = new UnmarkedPages();
    private Model model = new Model();
    private boolean isWrong;
    // Pages that were packed, those with implied closings, those that came to a full row, texts
    // that were packed where there was no room, and then faults by their kinds.
    private final int[] met = new int[11];

    private ModelTest(long seed) {
        random = new Random(seed);
        texts = new Texts(random);
    }

    public static void main(String[] args) {
        int wrong = 0;
        int[] met = new int[11];
        for (int run = 0; run < RUNS && wrong < 5; run++) {
            ModelTest test = new ModelTest(run);
            test.go();
            for (int i = 0; i < met.length; i++) {
                met[i] += test.met[i];
            }
            if (test.isWrong) {
                wrong++;
            }
        }
        // Runs that pack next to nothing would prove next to nothing.
        if (Arrays.stream(met).min().getAsInt() < RUNS / 10) {
            System.out.println("the runs are too poor: " + Arrays.toString(met));
            wrong++;
        }
        System.out.println(wrong == 0 ? "all runs agree " + Arrays.toString(met) : wrong + " runs are wrong");
        if (wrong != 0) {
            System.exit(1);
        }
    }

    private void go() {
        for (int left = random.nextInt(30); left > 0; left--) {
            call(0);
        }
        while (calls.size() < CALLS && !isWrong) {
            if (random.nextInt(3) == 0) {
                typeText();
            } else {
                call(random.nextInt(19));
            }
        }
    }

    private void typeText() {
        clear();
        String t = random.nextInt(5) == 0 ? texts.path() : texts.page(model.now.rules());
        if (random.nextInt(4) == 0) {
            t = texts.spoilt(t);
        }
        for (int i = 0; i < t.length() && !isWrong; i++) {
            type(t.charAt(i));
        }
        same("fault(0)", x.fault(0), model.fault(0));
        same("fault(1)", x.fault(1), model.fault(1));
        same("fault(2)", x.fault(2), model.fault(2));
        int implied = model.count(6);
        int answer = model.pack();
        same("pack()", x.pack(), answer);
        met[0] += answer >= 0 ? 1 : 0;
        met[1] += answer >= 0 && model.count(6) > implied ? 1 : 0;
        met[2] += answer >= 0 && model.count(0) == 6 ? 1 : 0;
        met[3] += answer == Model.FULL ? 1 : 0;
        if (answer <= -100) {
            met[4 + model.fault(1)]++;
        }
    }

    private int some(int most) {
        return random.nextInt(12) == 0 ? ODD[random.nextInt(ODD.length)] : random.nextInt(most + 1);
    }

    private void clear() {
        same("clearText()", x.clearText(), model.clearText());
    }

    private void type(char c) {
        same("type(" + (int) c + ")", x.type(c), model.type(c));
    }

    private void call(int which) {
        int a = some(6);
        int b = some(6);
        int c = some(40);
        boolean is = random.nextInt(4) != 0;
        switch (which) {
            case 0, 1 -> same("rule " + a + " " + b + " " + is, x.rule(a, b, is), model.rule(a, b, is));
            case 2 -> same("pack()", x.pack(), model.pack());
            case 3 -> {
                if (random.nextInt(3) == 0) {
                    same("unpackLast()", x.unpackLast(), model.unpackLast());
                }
            }
            case 4 -> same("first " + a, x.first(a), model.first(a));
            case 5 -> type((char) random.nextInt(random.nextBoolean() ? 128 : 65536));
            case 6 -> same("undo()", x.undo(), model.undo());
            case 7 -> {
                if (random.nextInt(3) == 0) {
                    same("keep()", x.keep(), model.keep());
                }
            }
            case 8 -> {
                if (random.nextInt(3) == 0) {
                    same("restore()", x.restore(), model.restore());
                }
            }
            case 9 -> same("charAt " + a + " " + c, x.charAt(a, c), model.charAt(a, c));
            case 10 -> same("code " + a + " " + b + " " + c, x.code(a, b, c), model.code(a, b, c));
            case 11 -> same("bits " + a + " " + b, x.bits(a, b), model.bits(a, b));
            case 12 -> same("wouldTake " + is, x.wouldTake(is), model.wouldTake(is));
            case 13 -> {
                clear();
                for (char letter : texts.path().toCharArray()) {
                    type(letter);
                }
                for (int what = -1; what <= 6; what++) {
                    same("path " + a + " " + what, x.path(a, what), model.path(a, what));
                }
            }
            case 14 -> same("known " + a + " " + b, x.known(a, b), model.known(a, b));
            case 15 -> same("latest " + a + " " + b, x.latest(a, b), model.latest(a, b));
            case 16 -> same("count " + c, x.count(c), model.count(c));
            case 17 -> allCounts();
            default -> same("fault " + a, x.fault(a), model.fault(a));
        }
    }

    private void allCounts() {
        for (int what = 0; what <= 8; what++) {
            same("count " + what, x.count(what), model.count(what));
        }
    }

    private void same(String call, int got, int due) {
        calls.add(call);
        if (got != due && calls.size() <= CALLS && !isWrong) {
            isWrong = true;
            System.out.println(String.join("; ", calls));
            System.out.println("text " + model.text + ": " + call + " answered " + got + ", due is " + due);
        }
    }
}
