/** Each promise by hand; the answers that are due were worked out from the document. */
public final class PromiseTest extends Checked {
    public static void main(String[] args) {
        newObject();
        rules();
        impliedByOpening();
        impliedByClosing();
        packing();
        names();
        notes();
        orders();
        words();
        unpackLast();
        first();
        typing();
        clearing();
        faultsOfCharacters();
        faultsOfKeys();
        faultsOfClosings();
        faultsOfSizes();
        undo();
        keepAndRestore();
        charAt();
        code();
        bits();
        wouldTake();
        path();
        pathFaults();
        known();
        latest();
        count();
        fullObject();
        System.out.println(wrong == 0 ? "all promises hold" : wrong + " answers are not as due");
        if (wrong != 0) {
            System.exit(1);
        }
    }

    private static void begin(String promise) {
        about = promise;
        fresh();
    }

    private static void newObject() {
        begin("1 a new object");
        for (int what = 0; what <= 8; what++) {
            due("count(" + what + ")", x.count(what), 0);
        }
        due("undo()", x.undo(), NONE);
        due("restore()", x.restore(), NONE);
        due("unpackLast()", x.unpackLast(), NOT_POSSIBLE);
        due("charAt(0, 0)", x.charAt(0, 0), UNKNOWN);
        for (int name = 0; name < 6; name++) {
            due("known", x.known(name, 0), NONE);
            for (int key = 0; key < 4; key++) {
                due("latest", x.latest(name, key), NONE);
            }
        }
        due("known(6, 0)", x.known(6, 0), NONE);
        due("fault(0)", x.fault(0), 0);
        due("fault(1)", x.fault(1), 0);
    }

    private static void rules() {
        begin("2 rule");
        due("rule(-1, 0, true)", x.rule(-1, 0, true), UNKNOWN);
        due("rule(6, 0, true)", x.rule(6, 0, true), UNKNOWN);
        due("rule(0, -1, true)", x.rule(0, -1, true), UNKNOWN);
        due("rule(0, 6, true)", x.rule(0, 6, true), UNKNOWN);
        due("rule(min, max, false)", x.rule(Integer.MIN_VALUE, Integer.MAX_VALUE, false), UNKNOWN);
        due("rule(1, 2, false)", x.rule(1, 2, false), NONE);
        due("count(7)", x.count(7), 0);
        int rules = 0;
        for (int name = 0; name < 6; name++) {
            for (int ended = 0; ended < 6; ended++) {
                rules++;
                due("rule", x.rule(name, ended, true), rules);
                due("rule again", x.rule(name, ended, true), NONE);
            }
        }
        due("count(1)", x.count(1), 36);
        due("rule(3, 4, false)", x.rule(3, 4, false), 35);
        due("rule(3, 4, false)", x.rule(3, 4, false), NONE);
        due("count(7)", x.count(7), 4);

        begin("2 rule, its direction");
        x.rule(1, 2, true);
        fault("<a><b><c></a>", 11, 3, 6);
        noFault("<a><c><b></b></a>");
        noFault("<a><c></c><b></b></a>");
        fault("<a><b><c></b></c></a>", 15, 3, 0);
    }

    private static void impliedByOpening() {
        begin("2 and 3, closings that an opening implies");
        x.rule(1, 1, true);
        x.rule(1, 2, true);
        // <b> ends c and then b; the outermost box stays although there is a rule for it.
        due("pack()", pack("<b><b><c><b></b></b>"), 16 + (3 + 3 + 5 + 3) + 4);
        row(0, 0, 0, 0, 0, 3, 3, 0, 2, 2);
        due("count(6)", x.count(6), 2);
        due("count(5)", x.count(5), 4);
        // A rule that is taken back leaves the packed page as it was.
        x.rule(1, 1, false);
        fault("<b><b><c><b></b></b>", 20, 0, NONE);
        textOf(0, "<b><b><c><b></b></b>");
        due("count(6)", x.count(6), 2);

        begin("2 and 3, no rule in between stops what is implied");
        x.rule(1, 2, true);
        x.rule(1, 4, true);
        // <b> would end e, but d stands between.
        pack("<a><e><d><c><b></b></d></e></a>");
        row(0, 0, 0, 0, 0, 0, 3, 0, 2, 2, 2, 2);
    }

    private static void impliedByClosing() {
        begin("2 and 3, closings that a closing implies");
        x.rule(0, 1, true);
        x.rule(0, 2, true);
        pack("<a><b><c>g</a>");
        row(0, 0, 0, 0, 0, 1, 3, 3, 2);
        due("count(6)", x.count(6), 2);
        // The latest box with the name itself is closed, not implied, also with a rule for it.
        x.rule(3, 3, true);
        pack("<a><d></d></a>");
        row(1, 0, 0, 0, 2, 2);
        fault("<a><b><d></a>", 11, 3, 6);
        fault("<a><d><b></a>", 11, 3, 3);
        fault("<b></a>", 5, 3, 0);
    }

    private static void packing() {
        begin("3 pack");
        due("empty", x.pack(), -100);
        due("count(7)", x.count(7), 0);
        // Steps 4, name a: code 0, set 0: code 0.
        due("pack()", pack("<a></a>"), 4 + 1 + 1);
        due("count(8), the text stays", x.count(8), 7);
        due("count(7)", x.count(7), 1);
        for (int page = 1; page < 6; page++) {
            due("pack() again", x.pack(), 6);
        }
        due("pack() of a seventh page", x.pack(), FULL);
        due("count(0)", x.count(0), 6);
        due("count(7)", x.count(7), 4);
        // A fault is told ahead of FULL.
        due("pack() with a fault", pack("<a>"), -103);

        begin("3 pack, steps");
        pack("<a>g<b>h</b>i</a>");
        row(0, 0, 0, 1, 0, 1, 2, 1, 2);
        due("bits(0, 0)", x.bits(0, 0), 14);
    }

    private static void names() {
        begin("3 pack, the row of names");
        pack("<f><a></a><b></b><a></a><a></a></f>");
        // f: none known + 5; a: 0 + 0; b: 1 + 1; a: place 1; a: place 0.
        row(0, 1, 5, 0, 2, 1, 0);
        pack("<a><b></b><a></a></a>");
        // a behind f at none around: 1 + 0; in a nothing was met: 0 + 1; then 1 + 0.
        row(1, 1, 1, 1, 1);
        pack("<f><a></a><b></b></f>");
        // f is at place 1 of (a, f); in f the list is (a, b).
        row(2, 1, 1, 0, 1);
        due("known(6, 0)", x.known(6, 0), 5);
        due("known(6, 1)", x.known(6, 1), 0);
        due("known(5, 0)", x.known(5, 0), 1);
        due("known(5, 1)", x.known(5, 1), 0);

        begin("3 pack, names around behind implied closings");
        x.rule(2, 1, true);
        pack("<a><b><c></c></a>");
        // c stands in a, not in b: in a there is (b) then.
        row(0, 1, 0, 1, 3);
    }

    private static void notes() {
        begin("3 pack, the row of notes");
        pack("<a w=7><a w=3></a><a></a><a w=3 z=9></a></a>");
        // w as bit 1: 1 + 1, 7; the same set: 0, 3 - 7 + 10; the empty set: 0 + 1; 9 + 1, 3 - 3, 9 - 0, in order.
        row(0, 2, 2, 7, 0, 6, 1, 10, 0, 9, 0);
        pack("<a z=0 w=4></a>");
        // The same set as the latest a had; 4 - 3, 0 - 9 + 10, z ahead of w.
        row(1, 2, 0, 1, 1, 1);
        pack("<b w=4></b>");
        // Values of a tell nothing of b.
        row(2, 2, 2, 4);
        pack("<b></b>");
        row(3, 2, 1);
        pack("<b w=4></b>");
        // However far back the latest value stands.
        row(4, 2, 2, 0);
        pack("<c></c>");
        row(5, 2, 0);
    }

    private static void orders() {
        String[] of3 = {"wyz", "wzy", "ywz", "yzw", "zwy", "zyw"};
        for (int order = 0; order < of3.length; order++) {
            begin("3 pack, the order of " + of3[order]);
            pack("<a " + of3[order].charAt(0) + "=0 " + of3[order].charAt(1) + "=0 " + of3[order].charAt(2) + "=0></a>");
            row(0, 2, 14, 0, 0, 0, order);
        }
        String[] of4 = {"wxyz", "wxzy", "xwyz", "ywxz", "zwxy", "zyxw"};
        int[] numbers = {0, 1, 6, 12, 18, 23};
        for (int i = 0; i < of4.length; i++) {
            begin("3 pack, the order of " + of4[i]);
            String keys = of4[i];
            pack("<a " + keys.charAt(0) + "=1 " + keys.charAt(1) + "=1 " + keys.charAt(2) + "=1 " + keys.charAt(3)
                + "=1></a>");
            row(0, 2, 16, 1, 1, 1, 1, numbers[i]);
        }
        begin("3 pack, no order of one key");
        pack("<a z=1></a>");
        row(0, 2, 9, 1);
    }

    private static void words() {
        begin("3 pack, the row of words");
        pack("<a>g<b>gg</b>vutsrqpo<b>g</b>g</a>");
        // New: 0, one letter, g; new: 1, two letters; new: 2, eight letters; g at place 2; g at place 0.
        row(0, 3, 0, 1, 0, 1, 2, 0, 0, 2, 8, 15, 14, 13, 12, 11, 10, 9, 8, 2, 0);
        due("count(4)", x.count(4), 3);
        pack("<b>gg<a></a>h</b>");
        // (g, vutsrqpo, gg) is known.
        row(1, 3, 2, 3, 1, 1);
        due("count(4)", x.count(4), 4);
        due("bits(1, 3)", x.bits(1, 3), 3 + 5 + 3 + 3);
    }

    private static void unpackLast() {
        begin("4 unpackLast");
        due("without pages", x.unpackLast(), NOT_POSSIBLE);
        due("count(7)", x.count(7), 0);
        pack("<a w=5>g</a>");
        int before = x.count(2);
        pack("<b w=6><a w=7>h</a></b>");
        due("unpackLast()", x.unpackLast(), 1);
        due("count(2)", x.count(2), before);
        due("count(4)", x.count(4), 1);
        due("latest(0, 0)", x.latest(0, 0), 5);
        due("latest(1, 0)", x.latest(1, 0), NONE);
        due("known(6, 0)", x.known(6, 0), 0);
        due("known(6, 1)", x.known(6, 1), NONE);
        due("known(1, 0)", x.known(1, 0), NONE);
        due("charAt(1, 0)", x.charAt(1, 0), UNKNOWN);
        due("count(7)", x.count(7), 3);
        due("unpackLast()", x.unpackLast(), 0);
        due("unpackLast()", x.unpackLast(), NOT_POSSIBLE);
        due("count(7)", x.count(7), 4);
    }

    private static void first() {
        begin("5 first");
        due("without pages", x.first(0), UNKNOWN);
        x.rule(2, 2, true);
        due("pack()", pack("<a><c><c></c></a>"), 12 + (1 + 3 + 1) + 3);
        due("pack()", pack("<b></b>"), 4 + 3 + 1);
        due("pack()", pack("<d>g</d>"), 6 + 5 + 1 + 3 + 1 + 1);
        due("first(-1)", x.first(-1), UNKNOWN);
        due("first(3)", x.first(3), UNKNOWN);
        due("first(0)", x.first(0), NONE);
        due("count(7)", x.count(7), 4);
        // The rule is gone, but what it implied stays.
        x.rule(2, 2, false);
        // Names: d 3 instead of 5, a 1 + 0 instead of 0, b 2 + 1 instead of 1 + 1.
        due("first(2)", x.first(2), 10000 + (5 - 5) + (1 - 3) + (3 - 5));
        textOf(0, "<d>g</d>");
        textOf(1, "<a><c><c></c></a>");
        textOf(2, "<b></b>");
        row(0, 1, 3);
        row(1, 1, 1, 2, 0);
        row(2, 1, 3);
        row(1, 0, 0, 0, 3, 0, 2, 2);
        due("known(6, 0)", x.known(6, 0), 1);
        due("known(6, 2)", x.known(6, 2), 3);
        due("undo()", x.undo(), 3);
        textOf(0, "<a><c><c></c></a>");
        textOf(2, "<d>g</d>");

        begin("5 first, one that takes less");
        pack("<b></b>");
        pack("<a></a>");
        // Before: 0 + 1 and 1 + 0, three bits each; then 0 and 1 + 1, one bit and three.
        due("first(1)", x.first(1), 10000 + (3 + 3) - (1 + 3));
        due("count(7)", x.count(7), 3);
        due("undo()", x.undo(), 2);
        textOf(0, "<b></b>");
        textOf(1, "<a></a>");
        row(1, 1, 1);
    }

    private static void typing() {
        begin("6 type");
        due("type(0)", x.type((char) 0), 1);
        due("type(max)", x.type((char) 65535), 2);
        due("fault(0)", x.fault(0), 0);
        for (int length = 3; length <= 100; length++) {
            due("type", x.type('a'), length);
        }
        due("type", x.type('a'), FULL);
        due("count(8)", x.count(8), 100);
        due("count(7), no act", x.count(7), 0);
    }

    private static void clearing() {
        begin("7 clearText");
        due("clearText()", x.clearText(), 0);
        write("<a></a>");
        due("clearText()", x.clearText(), 7);
        due("clearText()", x.clearText(), 0);
        due("fault(0)", x.fault(0), 0);
        due("type", x.type('<'), 1);
        due("count(7), no act", x.count(7), 0);
    }

    private static void faultsOfCharacters() {
        begin("8 fault, kinds 0, 1 and 6");
        due("fault(-1)", x.fault(-1), BAD_VALUE);
        due("fault(3)", x.fault(3), BAD_VALUE);
        noFault("<a w=0 x=9><f>gv</f></a>");
        due("fault(3) of a page", x.fault(3), BAD_VALUE);
        String whole = "<a w=0><f>gv</f></a>";
        for (int length = 0; length < whole.length(); length++) {
            fresh();
            fault(whole.substring(0, length), length, 0, NONE);
        }
        fresh();
        fault("a", 0, 1, NONE);
        fault(" <a></a>", 0, 1, NONE);
        fault("</a>", 1, 1, NONE);
        fault("<g></g>", 1, 1, NONE);
        fault("<a/>", 2, 1, NONE);
        fault("<a\u0000>", 2, 1, NONE);
        fault("<a v=1>", 3, 1, NONE);
        fault("<a {=1>", 3, 1, NONE);
        fault("<a  w=1>", 3, 1, NONE);
        fault("<a w>", 4, 1, NONE);
        fault("<a w=>", 5, 1, NONE);
        fresh();
        fault("<a w=:>", 5, 1, NONE);
        fault("<a w=12>", 6, 1, NONE);
        fault("<a>f", 3, 1, NONE);
        fault("<a>w", 3, 1, NONE);
        fault("<a>g h</a>", 4, 1, NONE);
        fault("<a><</a>", 4, 1, NONE);
        fault("<a></g>", 5, 1, NONE);
        fault("<a></a >", 6, 1, NONE);
        fault("<a></ab", 6, 1, NONE);
        fault("<a></a> ", 7, 6, NONE);
        fault("<a></a><a></a>", 7, 6, NONE);
        fault("<a></a></a>", 7, 6, NONE);
    }

    private static void faultsOfKeys() {
        begin("8 fault, kind 2");
        fault("<a w=1 w", 7, 2, 3);
        fault("<a w=1 x=2 x=3></a>", 11, 2, 7);
        fault("<a z=1 y=2 x=3 w=4 z=5></a>", 19, 2, 3);
        noFault("<a w=1><b w=1></b></a>");
        fault("<a w=1><b x=1 w=1 x=1></b></a>", 18, 2, 10);
    }

    private static void faultsOfClosings() {
        begin("8 fault, kind 3");
        fault("<a></b", 5, 3, 0);
        fault("<a></b>", 5, 3, 0);
        fault("<a><b></b><b></a></b>", 15, 3, 10);
        fault("<a><b></b></b>", 12, 3, 0);
        x.rule(0, 2, true);
        x.rule(4, 0, true);
        // What is left open behind the closing that is implied is what caused it.
        fault("<a><b><c></a></b></a>", 11, 3, 3);
        // The outermost box is never implied.
        fault("<a></e>", 5, 3, 0);
        noFault("<a><e></e></a>");
    }

    private static void faultsOfSizes() {
        begin("8 fault, kinds 4 and 5");
        noFault("<a><a><a><a><a><a></a></a></a></a></a></a>");
        noFault("<a><a><a><a><a><a></a><a></a></a></a></a></a></a>");
        fault("<a><a><a><a><a><a><a", 18, 4, NONE);
        fault("<a><a><a><a><a><a>g<b></b>", 19, 4, NONE);
        fault("<a><a><a><a><a><a><", 19, 0, NONE);
        fault("<a><a><a><a><a><a><g", 19, 1, NONE);
        x.rule(1, 2, true);
        // The closing that is implied makes room ahead of the new box.
        noFault("<a><a><a><a><a><c><b></b></a></a></a></a></a>");
        fault("<a><a><a><a><a><b><c></c>", 18, 4, NONE);
        noFault("<a>ghijklmn</a>");
        fault("<a>ghijklmno</a>", 11, 5, NONE);
        fault("<a>ghijklmn1</a>", 11, 1, NONE);
        noFault("<a>ghijklmn<b></b>ghijklmn</a>");
    }

    private static void undo() {
        begin("9 undo");
        due("undo()", x.undo(), NONE);
        x.rule(0, 1, true);
        pack("<a><b></a>");
        x.rule(0, 1, false);
        x.unpackLast();
        due("count(7)", x.count(7), 4);
        write("g");
        due("undo()", x.undo(), 3);
        textOf(0, "<a><b></a>");
        due("count(8), the text stays", x.count(8), 1);
        due("undo()", x.undo(), 2);
        due("count(1)", x.count(1), 1);
        due("undo()", x.undo(), 1);
        due("count(0)", x.count(0), 0);
        due("known(6, 0)", x.known(6, 0), NONE);
        due("undo()", x.undo(), 0);
        due("count(1)", x.count(1), 0);
        due("undo()", x.undo(), NONE);

        begin("9 undo, the oldest state is dropped");
        for (int name = 0; name < 6; name++) {
            x.rule(name, name, true);
        }
        for (int left = 3; left >= 0; left--) {
            due("undo()", x.undo(), left);
        }
        due("count(1)", x.count(1), 2);
        due("undo()", x.undo(), NONE);
        due("rule(5, 5, true)", x.rule(5, 5, true), 3);
        due("undo()", x.undo(), 0);
        due("count(1)", x.count(1), 2);
    }

    private static void keepAndRestore() {
        begin("10 keep, 11 restore");
        due("restore()", x.restore(), NONE);
        due("keep() without pages", x.keep(), 0);
        due("count(7), no act", x.count(7), 0);
        x.rule(0, 1, true);
        pack("<a w=1>g</a>");
        due("restore()", x.restore(), 0);
        due("count(7)", x.count(7), 3);
        due("count(1)", x.count(1), 0);
        due("undo()", x.undo(), 2);
        due("count(1)", x.count(1), 1);
        textOf(0, "<a w=1>g</a>");
        due("latest(0, 0)", x.latest(0, 0), 1);
        due("keep() again", x.keep(), 1);
        pack("<b></b>");
        x.first(1);
        x.unpackLast();
        textOf(0, "<b></b>");
        due("restore()", x.restore(), 1);
        textOf(0, "<a w=1>g</a>");
        row(0, 3, 0, 1, 0);
        due("known(6, 0)", x.known(6, 0), 0);
        due("known(6, 1)", x.known(6, 1), NONE);
        due("count(8), the text stays", x.count(8), 7);
        x.unpackLast();
        due("restore(), it stays", x.restore(), 1);
        due("restore() once more is an act", x.restore(), 1);
        due("count(7)", x.count(7), 4);
        due("undo()", x.undo(), 3);
        due("undo()", x.undo(), 2);
        due("count(0)", x.count(0), 0);
        due("restore(), not undone", x.restore(), 1);
    }

    private static void charAt() {
        begin("12 charAt");
        x.rule(1, 1, true);
        String one = "<a z=1 w=2>ghi<b y=0>j<b>k</b></a>";
        String two = "<f></f>";
        pack(one);
        pack(two);
        textOf(0, one);
        textOf(1, two);
        due("charAt(2, 0)", x.charAt(2, 0), UNKNOWN);
        due("charAt(-1, -1)", x.charAt(-1, -1), UNKNOWN);
        due("charAt(0, -1)", x.charAt(0, -1), BAD_VALUE);
        due("charAt(0, max)", x.charAt(0, Integer.MAX_VALUE), NONE);
        due("charAt(0, min)", x.charAt(0, Integer.MIN_VALUE), BAD_VALUE);
        due("charAt(max, 0)", x.charAt(Integer.MAX_VALUE, 0), UNKNOWN);
    }

    private static void code() {
        begin("13 code");
        due("code(0, 4, -1)", x.code(0, 4, -1), UNKNOWN);
        pack("<a>g</a>");
        due("code(0, -1, 0)", x.code(0, -1, 0), BAD_VALUE);
        due("code(0, 4, 0)", x.code(0, 4, 0), BAD_VALUE);
        due("code(0, 0, -1)", x.code(0, 0, -1), BAD_VALUE);
        due("code(1, 0, 0)", x.code(1, 0, 0), UNKNOWN);
        due("code(-1, 0, 0)", x.code(-1, 0, 0), UNKNOWN);
        due("code(0, 0, max)", x.code(0, 0, Integer.MAX_VALUE), NONE);
        row(0, 0, 0, 1, 2);
        row(0, 1, 0);
        row(0, 2, 0);
        row(0, 3, 0, 1, 0);
        pack("<a></a>");
        row(1, 3);
    }

    private static void bits() {
        begin("14 bits");
        due("bits(0, 5)", x.bits(0, 5), UNKNOWN);
        pack("<f w=9>g</f>");
        // f: 5; notes: 2 and 9; words: 0, 1 and 0.
        due("bits(0, 0)", x.bits(0, 0), 6);
        due("bits(0, 1)", x.bits(0, 1), 5);
        due("bits(0, 2)", x.bits(0, 2), 3 + 7);
        due("bits(0, 3)", x.bits(0, 3), 1 + 3 + 1);
        due("bits(0, 4)", x.bits(0, 4), 26);
        due("bits(0, -1)", x.bits(0, -1), BAD_VALUE);
        due("bits(0, 5)", x.bits(0, 5), BAD_VALUE);
        due("bits(1, 0)", x.bits(1, 0), UNKNOWN);
        due("bits(-1, 5)", x.bits(-1, 5), UNKNOWN);
        // Codes at the edges of the powers of two: 2 takes 3 bits, 3 takes 5, 6 takes 5, 7 takes 7.
        int[] digits = {0, 1, 2, 3, 6, 7, 9};
        int[] due = {1, 3, 3, 5, 5, 7, 7};
        for (int i = 0; i < digits.length; i++) {
            begin("14 bits of a digit");
            pack("<a w=" + digits[i] + "></a>");
            due("bits(0, 2) with " + digits[i], x.bits(0, 2), 3 + due[i]);
        }
        begin("14 bits of 14, 15 and 16");
        pack("<a>v<b></b>u</a>");
        due("bits(0, 3)", x.bits(0, 3), 1 + 3 + 9 + 3 + 3 + 7);
        pack("<c w=0 x=0 y=0 z=0></c>");
        due("bits(1, 2)", x.bits(1, 2), 9 + 4 + 1);
    }

    private static void wouldTake() {
        begin("15 wouldTake");
        due("empty", x.wouldTake(true), -100);
        write("<b w=3>gh</b>");
        int alone = 6 + 3 + 3 + 5 + 1 + 3 + 1 + 3;
        due("alone", x.wouldTake(true), alone);
        due("not alone", x.wouldTake(false), alone);
        due("count(0), nothing is packed", x.count(0), 0);
        due("count(4), nothing is learnt", x.count(4), 0);
        due("count(7)", x.count(7), 0);
        due("pack()", x.pack(), alone);
        due("alone", x.wouldTake(true), alone);
        due("not alone", x.wouldTake(false), 6 + 1 + 1 + 1 + 1);
        due("not alone again", x.wouldTake(false), 10);
        due("latest(1, 0)", x.latest(1, 0), 3);
        for (int page = 1; page < 6; page++) {
            x.pack();
        }
        due("with six pages", x.wouldTake(false), 10);
        due("alone", x.wouldTake(true), alone);
        fault("<b w=3 w=4>", 7, 2, 3);
    }

    private static void path() {
        begin("16 path");
        x.rule(1, 1, true);
        String page = "<a z=1>g<b>hij<b x=1 w=2>k<c>l</c>m<c></c></b></a>";
        pack(page);
        textOf(0, page);
        path(0, "a", 0, 1, 2, 8, 1, 1);
        path(0, "a1", 0, 1, 2, 8, 1, 1);
        path(0, "a/b", 8, 1, 0, 0, 3, 2);
        path(0, "a/b1", 8, 1, 0, 0, 3, 2);
        path(0, "a/b2", 14, 2, 2, 3, 1, 2);
        path(0, "a/b2/c", 26, 1, 0, 0, 1, 3);
        path(0, "a1/b2/c2", 35, 0, 0, 0, NONE, 3);
        leadsToNone("a2");
        leadsToNone("b");
        leadsToNone("a/b3");
        leadsToNone("a/b9");
        leadsToNone("a/c");
        leadsToNone("a/b/c");
        leadsToNone("a/a");
        leadsToNone("a/b2/c3");
        leadsToNone("a/b2/c/c/c/c/c/c/c/c");
        write("a");
        due("path(1, 0)", x.path(1, 0), UNKNOWN);
        due("path(-1, 6)", x.path(-1, 6), UNKNOWN);
        due("path(0, -1)", x.path(0, -1), BAD_VALUE);
        due("path(0, 6)", x.path(0, 6), BAD_VALUE);
    }

    private static void pathFaults() {
        begin("16 path, faults");
        write("");
        due("path(0, 0) without pages", x.path(0, 0), UNKNOWN);
        pack("<a></a>");
        String[] texts = {"", "g", "/", "a/", "a//", "a0", "a12", "a1b", "ab", "A", "a/b2/", "a/b2/g", "a ", "a/1",
            "x/", "a2/", "\uffff"};
        int[] places = {0, 0, 0, 2, 2, 1, 2, 2, 1, 0, 5, 5, 1, 2, 0, 3, 0};
        for (int i = 0; i < texts.length; i++) {
            write(texts[i]);
            due("path(0, 0) of " + texts[i], x.path(0, 0), -100 - places[i]);
            due("path(0, 5) of " + texts[i], x.path(0, 5), -100 - places[i]);
            due("path(0, 6) of " + texts[i], x.path(0, 6), BAD_VALUE);
            due("path(1, 0) of " + texts[i], x.path(1, 0), UNKNOWN);
        }
        x.clearText();
        for (int i = 0; i < 50; i++) {
            x.type('a');
            x.type('/');
        }
        due("path(0, 0) of a long text", x.path(0, 0), -200);
    }

    private static void known() {
        begin("17 known");
        due("known(-1, -1)", x.known(-1, -1), UNKNOWN);
        due("known(7, 0)", x.known(7, 0), UNKNOWN);
        due("known(6, -1)", x.known(6, -1), BAD_VALUE);
        due("known(6, max)", x.known(6, Integer.MAX_VALUE), NONE);
        pack("<a><b><c></c></b><c></c><b></b></a>");
        due("known(6, 0)", x.known(6, 0), 0);
        due("known(6, 1)", x.known(6, 1), NONE);
        due("known(0, 0)", x.known(0, 0), 1);
        due("known(0, 1)", x.known(0, 1), 2);
        due("known(0, 2)", x.known(0, 2), NONE);
        due("known(1, 0)", x.known(1, 0), 2);
        due("known(2, 0)", x.known(2, 0), NONE);
        pack("<b><f></f></b>");
        due("known(6, 0)", x.known(6, 0), 1);
        due("known(6, 1)", x.known(6, 1), 0);
        due("known(1, 0)", x.known(1, 0), 5);
        due("known(1, 1)", x.known(1, 1), 2);
    }

    private static void latest() {
        begin("18 latest");
        due("latest(-1, 0)", x.latest(-1, 0), UNKNOWN);
        due("latest(6, 0)", x.latest(6, 0), UNKNOWN);
        due("latest(0, -1)", x.latest(0, -1), UNKNOWN);
        due("latest(0, 4)", x.latest(0, 4), UNKNOWN);
        pack("<a w=0 z=9><a w=8></a><f y=3></f></a>");
        due("latest(0, 0)", x.latest(0, 0), 8);
        due("latest(0, 1)", x.latest(0, 1), NONE);
        due("latest(0, 3)", x.latest(0, 3), 9);
        due("latest(5, 2)", x.latest(5, 2), 3);
        due("latest(5, 0)", x.latest(5, 0), NONE);
        pack("<a w=0></a>");
        due("latest(0, 0)", x.latest(0, 0), 0);
        x.unpackLast();
        due("latest(0, 0)", x.latest(0, 0), 8);
    }

    private static void count() {
        begin("19 count");
        due("count(-1)", x.count(-1), BAD_VALUE);
        due("count(9)", x.count(9), BAD_VALUE);
        due("count(max)", x.count(Integer.MAX_VALUE), BAD_VALUE);
        x.rule(0, 1, true);
        int one = pack("<a>g<b>h</a>");
        int two = pack("<a>g<b>i<b></b></a>");
        write("<a>");
        due("count(0)", x.count(0), 2);
        due("count(1)", x.count(1), 1);
        due("count(2)", x.count(2), one + two);
        due("count(3)", x.count(3), 12 + 19);
        due("count(4)", x.count(4), 3);
        due("count(5)", x.count(5), 5);
        due("count(6)", x.count(6), 2);
        due("count(7)", x.count(7), 3);
        due("count(8)", x.count(8), 3);
    }

    /** As many boxes, words and states as the document leaves room for. */
    private static void fullObject() {
        begin("3, the fullest pages");
        x.rule(1, 1, true);
        StringBuilder page = new StringBuilder("<a>");
        for (int box = 0; box < 31; box++) {
            page.append("<b>");
        }
        fault(page.toString() + "<b>g", 100, 0, NONE);
        begin("3, the most boxes and words");
        x.rule(1, 1, true);
        x.rule(0, 1, true);
        String words = "ghijklmnopqrstuvghijklmn";
        page = new StringBuilder("<a>");
        for (int box = 0; box < 31; box++) {
            page.append("<b>");
        }
        due("length", page.length(), 96);
        due("pack()", pack(page + "</a>"), 2 * 64 + 1 + 3 + 30 + 32);
        due("count(6)", x.count(6), 31);
        page = new StringBuilder("<a>g");
        for (int box = 1; box < 24; box++) {
            page.append("<b>").append(words.charAt(box));
        }
        due("pack()", pack(page + "</a>"), x.bits(1, 4));
        due("count(4)", x.count(4), 16);
        due("count(5)", x.count(5), 32 + 24);
        textOf(1, page + "</a>");
    }
}
