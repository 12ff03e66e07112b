import java.util.ArrayList;
import java.util.List;
import java.util.function.Supplier;
import java.util.function.ToIntFunction;

/** Calls that return an error or NONE: behind each of them the object must be like one without the call. */
final class Refused extends Checked {
    private static final String FULL_TEXT = "<a>" + "<b>gggggg</b>".repeat(7) + "gg</a>";
    private static final int[] NUMBERS = {Integer.MIN_VALUE, -1, 0, 1, 2, 3, 4, 5, 6, 7, 9, 100, Integer.MAX_VALUE};

    private record Call(String name, ToIntFunction<Pages> of) { }

    static void tryAll() {
        List<Call> calls = calls();
        List<Supplier<Pages>> states = new ArrayList<>();
        states.add(Pages::new);
        states.add(() -> withText(new Pages(), FULL_TEXT));
        states.add(Refused::withoutSnapshot);
        states.add(() -> full("<a w=5>g<c></c></a>"));
        states.add(() -> full("<a w=5>g<c w=1 w=2></c></a>"));
        states.add(() -> full("a/b/c"));
        states.add(() -> full("a/f3"));
        states.add(Refused::undone);
        int refused = 0;
        for (Supplier<Pages> state : states) {
            List<Integer> without = told(state.get());
            for (Call call : calls) {
                Pages pages = state.get();
                int answer = call.of.applyAsInt(pages);
                if (answer < 0) {
                    refused++;
                    due("what is told behind " + call.name + " (in state " + states.indexOf(state) + ")",
                        told(pages).equals(without) ? 1 : 0, 1);
                }
            }
        }
        due("refused calls, enough of them", refused > 1000 ? 1 : 0, 1);
    }

    private static Pages withText(Pages pages, String text) {
        pages.clearText();
        for (char c : text.toCharArray()) {
            pages.type(c);
        }
        return pages;
    }

    /** Six pages, four states, a snapshot of another state, and a text. */
    private static Pages full(String text) {
        Pages pages = new Pages();
        pages.rule(1, 1, true);
        withText(pages, "<a w=1><b>g<b>h</b></a>").pack();
        pages.keep();
        withText(pages, "<b x=2>i</b>").pack();
        for (int page = 2; page < 6; page++) {
            withText(pages, "<c>g</c>").pack();
        }
        return withText(pages, text);
    }

    private static Pages withoutSnapshot() {
        Pages pages = new Pages();
        pages.rule(2, 3, true);
        withText(pages, "<d w=3>g</d>").pack();
        return pages;
    }

    /** Pages, but an empty history. */
    private static Pages undone() {
        Pages pages = full("<a></a>");
        for (int left = 4; left > 0; left--) {
            pages.undo();
        }
        return pages;
    }

    /** What an object tells, and what its history and its snapshot bring back. */
    private static List<Integer> told(Pages p) {
        List<Integer> told = new ArrayList<>();
        for (int what = 0; what <= 2; what++) {
            told.add(p.fault(what));
        }
        for (int page = 0; page < 6; page++) {
            for (int row = 0; row < 4; row++) {
                told.add(p.bits(page, row));
            }
        }
        for (int name = 0; name < 6; name++) {
            for (int key = 0; key < 4; key++) {
                told.add(p.latest(name, key));
            }
        }
        told.add(p.path(0, 0));
        told.add(p.wouldTake(false));
        toldInShort(p, told);
        for (int states = p.count(7); states >= 0; states--) {
            told.add(p.undo());
            toldInShort(p, told);
        }
        told.add(p.restore());
        toldInShort(p, told);
        return told;
    }

    private static void toldInShort(Pages p, List<Integer> told) {
        for (int what = 0; what <= 8; what++) {
            told.add(p.count(what));
        }
        for (int name = 0; name <= 6; name++) {
            told.add(p.known(name, 0));
        }
        for (int page = 0; page < 6; page++) {
            told.add(p.charAt(page, 1));
        }
    }

    private static List<Call> calls() {
        List<Call> calls = new ArrayList<>();
        calls.add(new Call("pack()", Pages::pack));
        calls.add(new Call("unpackLast()", Pages::unpackLast));
        calls.add(new Call("type", p -> p.type('x')));
        calls.add(new Call("undo()", Pages::undo));
        calls.add(new Call("restore()", Pages::restore));
        calls.add(new Call("wouldTake(true)", p -> p.wouldTake(true)));
        calls.add(new Call("wouldTake(false)", p -> p.wouldTake(false)));
        for (int a : NUMBERS) {
            calls.add(new Call("first " + a, p -> p.first(a)));
            calls.add(new Call("fault " + a, p -> p.fault(a)));
            calls.add(new Call("count " + a, p -> p.count(a)));
            for (int b : NUMBERS) {
                String with = " " + a + " " + b;
                calls.add(new Call("rule true" + with, p -> p.rule(a, b, true)));
                calls.add(new Call("rule false" + with, p -> p.rule(a, b, false)));
                calls.add(new Call("charAt" + with, p -> p.charAt(a, b)));
                calls.add(new Call("code of row 3" + with, p -> p.code(a, 3, b)));
                calls.add(new Call("code at 0" + with, p -> p.code(a, b, 0)));
                calls.add(new Call("bits" + with, p -> p.bits(a, b)));
                calls.add(new Call("path" + with, p -> p.path(a, b)));
                calls.add(new Call("known" + with, p -> p.known(a, b)));
                calls.add(new Call("latest" + with, p -> p.latest(a, b)));
            }
        }
        return calls;
    }
}
