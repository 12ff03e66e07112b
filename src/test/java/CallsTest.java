/** One test for each sentence that names a boundary case in the document's promises 1 to 19. */
public final class CallsTest extends Checked {
    private static final int LEAST = Integer.MIN_VALUE;
    private static final int MOST = Integer.MAX_VALUE;

    public static void main(String[] args) throws Exception {
        Sentences.runAll(CallsTest.class);
    }

    // ---- 1 a new object

    @Sentence(in = "Promise 1: A new object", says = "`UnmarkedPages()`: Creates it without rules and pages.")
    @Broken(from = "int pageCount; State() {", to = "int pageCount = 1; State() {")
    @Broken(from = "State() { rules.fill(0);", to = "State() { rules.fill(0); rules.put(7, 1);")
    @Broken(from = "public UnmarkedPages() {", to = "public UnmarkedPages() { hasSnapshot = true;")
    @Broken(from = "public UnmarkedPages() {", to = "public UnmarkedPages() { historySize = 1;")
    static void aNewObject() {
        for (int what = 0; what <= 8; what++) {
            due("count(" + what + ")", x.count(what), 0);
        }
        due("charAt(0, 0)", x.charAt(0, 0), UNKNOWN);
        due("unpackLast()", x.unpackLast(), NOT_POSSIBLE);
        due("undo()", x.undo(), NONE);
        due("restore()", x.restore(), NONE);
        due("fault(0)", x.fault(0), 0);
        due("wouldTake(false)", x.wouldTake(false), -100);
        // Another object knows nothing of this one.
        x.rule(0, 0, true);
        pack("<a w=1>g</a>");
        x.keep();
        fresh();
        for (int what = 0; what <= 8; what++) {
            due("count(" + what + ")", x.count(what), 0);
        }
        due("known(6, 0)", x.known(6, 0), NONE);
        due("latest(0, 0)", x.latest(0, 0), NONE);
        due("restore()", x.restore(), NONE);
    }

    // ---- 2 rule

    @Sentence(in = "Promise 2: rule", says = "Makes a rule, or takes it back.")
    @Broken(from = "now.setEnds(name, ended, is);", to = "now.setEnds(name, ended, true);")
    @Broken(from = "rules.put(name * NAMES + ended, is ? 1 : 0);", to = "rules.put(ended * NAMES + name, is ? 1 : 0);")
    @Broken(from = "rules.put(name * NAMES + ended, is ? 1 : 0);", to = "rules.put(name * NAMES + ended % 5, is ? 1 : 0);")
    static void rulesAreMadeAndTakenBack() {
        fault("<a><c><b></b></a>", 15, 3, 3);
        due("rule(1, 2, true)", x.rule(1, 2, true), 1);
        noFault("<a><c><b></b></a>");
        due("rule(2, 1, true)", x.rule(2, 1, true), 2);
        due("rule(1, 2, false)", x.rule(1, 2, false), 1);
        fault("<a><c><b></b></a>", 15, 3, 3);
        noFault("<a><b><c></c></a>");
        fresh();
        for (int rules = 0; rules < 36; rules++) {
            due("rule", x.rule(rules / 6, rules % 6, true), rules + 1);
        }
        for (int rules = 35; rules >= 0; rules--) {
            due("rule", x.rule(rules % 6, rules / 6, false), rules);
        }
        due("count(1)", x.count(1), 0);
    }

    @Sentence(in = "Promise 2: rule", says = "(Pages that are packed already stay as they are, and are unpacked as they were.)")
    @Broken(from = "now.setEnds(name, ended, is);",
        to = "now.setEnds(name, ended, is); if (!is) { now.pageAt(0).steps.clear(); packAnew(); }")
    @Broken(from = "now.setEnds(name, ended, is);", to = "now.setEnds(name, ended, is); if (is && now.pageCount > 0) {"
        + " text.become(now.pageAt(0).letters); reader.read(text, now); now.pageAt(0).become(reader.page); packAnew(); }")
    static void packedPagesStayAsTheyAre() {
        fresh("bc", "ab");
        String one = "<a><c><b>g</a>";
        String two = "<a><d><e></e></d></a>";
        int bits = pack(one);
        bits += pack(two);
        due("rule(1, 2, false)", x.rule(1, 2, false), 1);
        due("rule(0, 1, false)", x.rule(0, 1, false), 0);
        write(one);
        due("the text is no page any more", x.fault(1), 3);
        textOf(0, one);
        row(0, 0, 0, 0, 3, 0, 1, 3, 2);
        due("count(2)", x.count(2), bits);
        due("count(6)", x.count(6), 2);
        // Nor does a rule that is made then close what was told.
        due("rule(4, 3, true)", x.rule(4, 3, true), 1);
        textOf(1, two);
        row(1, 0, 0, 0, 0, 2, 2, 2);
        row(0, 0, 0, 0, 3, 0, 1, 3, 2);
        due("count(2)", x.count(2), bits);
        due("count(6)", x.count(6), 2);
    }

    @Sentence(in = "Promise 2: rule", says = "`name`: 0 to 5: y")
    @Broken(from = "return name >= 0 && name < NAMES;", to = "return name > 0 && name < NAMES;")
    @Broken(from = "return name >= 0 && name < NAMES;", to = "return name >= 0 && name <= NAMES;")
    @Broken(from = "return name >= 0 && name < NAMES;", to = "return name >= 0 && name < NAMES - 1;")
    @Broken(from = "return name >= 0 && name < NAMES;", to = "return name >= -1 && name < NAMES;")
    @Broken(from = "if (!isName(name) || !isName(ended))", to = "if (!isName(ended))")
    static void namesThatEnd() {
        due("rule(0, 3, true)", x.rule(0, 3, true), 1);
        due("rule(5, 3, true)", x.rule(5, 3, true), 2);
        for (int name : new int[] {LEAST, -6, -1, 6, 7, 36, MOST}) {
            due("rule(" + name + ", 3, true)", x.rule(name, 3, true), UNKNOWN);
            due("rule(" + name + ", 3, false)", x.rule(name, 3, false), UNKNOWN);
        }
        due("count(1)", x.count(1), 2);
    }

    @Sentence(in = "Promise 2: rule", says = "`ended`: 0 to 5: x, which y ends")
    @Broken(from = "if (!isName(name) || !isName(ended))", to = "if (!isName(name))")
    @Broken(from = "if (!isName(name) || !isName(ended))", to = "if (!isName(name) || ended < 0 || ended > 6)")
    @Broken(from = "if (!isName(name) || !isName(ended))", to = "if (!isName(name) || ended < 0 || ended > 4)")
    @Broken(from = "if (!isName(name) || !isName(ended))", to = "if (!isName(name) || ended < 1 || ended > 5)")
    static void namesThatAreEnded() {
        due("rule(3, 0, true)", x.rule(3, 0, true), 1);
        due("rule(3, 5, true)", x.rule(3, 5, true), 2);
        for (int ended : new int[] {LEAST, -6, -1, 6, 7, 36, MOST}) {
            due("rule(3, " + ended + ", true)", x.rule(3, ended, true), UNKNOWN);
            due("rule(3, " + ended + ", false)", x.rule(3, ended, false), UNKNOWN);
        }
        due("rule(6, 6, true)", x.rule(6, 6, true), UNKNOWN);
        due("rule(-1, 6, true)", x.rule(-1, 6, true), UNKNOWN);
        due("count(1)", x.count(1), 2);
    }

    @Sentence(in = "Promise 2: rule", says = "Returns how many rules there are then; UNKNOWN (name or ended); NONE if it is so already.")
    @Broken(from = "return now.ruleCount(); }", to = "return now.ruleCount() % 36; }")
    @Broken(from = "return now.ruleCount(); }", to = "return Math.max(now.ruleCount(), 1); }")
    @Broken(from = "if (now.ends(name, ended) == is) {", to = "if (is && now.ends(name, ended)) {")
    @Broken(from = "if (now.ends(name, ended) == is) {", to = "if (!is && !now.ends(name, ended)) {")
    static void answersOfRule() {
        due("rule(5, 5, false)", x.rule(5, 5, false), NONE);
        for (int rules = 0; rules < 36; rules++) {
            due("rule", x.rule(rules / 6, rules % 6, true), rules + 1);
            due("rule again", x.rule(rules / 6, rules % 6, true), NONE);
        }
        due("count(1)", x.count(1), 36);
        due("rule(5, 5, false)", x.rule(5, 5, false), 35);
        due("rule(5, 5, false)", x.rule(5, 5, false), NONE);
        fresh("aa");
        due("the last one", x.rule(0, 0, false), 0);
    }

    // ---- 3 pack

    @Sentence(in = "Promise 3: pack", says = "Packs the page of the text, which stays.")
    @Broken(from = "knowledge.take(reader.page, codes); return", to = "knowledge.take(reader.page, codes); text.clear(); return")
    static void theTextStays() {
        due("pack()", pack("<a></a>"), 6);
        due("count(8)", x.count(8), 7);
        due("fault(0)", x.fault(0), NONE);
        due("pack() again", x.pack(), 6);
        due("type", x.type('g'), 8);
        // What is typed then is not of the packed page.
        textOf(0, "<a></a>");
        due("clearText()", x.clearText(), 8);
        textOf(1, "<a></a>");
    }

    @Sentence(in = "Promise 3: pack", says = "Returns the bits that it takes; -100 minus the fault of the text as a page if it has one"
        + " (which is an error); FULL if 6 pages are packed.")
    @Broken(from = "now.addPage(reader.page); knowledge.take(reader.page, codes); return codes.bitsOfAll();",
        to = "now.addPage(reader.page); knowledge.take(reader.page, codes); return bitsOfAllPages();")
    @Broken(from = "return FAULT_BASE - reader.faultPlace; } if", to = "return FAULT_BASE + reader.faultPlace; } if")
    @Broken(from = "return FAULT_BASE - reader.faultPlace; } if", to = "return FAULT_BASE - reader.faultKind; } if")
    @Broken(from = "FAULT_BASE = -100", to = "FAULT_BASE = -99")
    @Broken(from = "if (now.pageCount >= MOST_PAGES)", to = "if (now.pageCount > MOST_PAGES)")
    static void answersOfPack() {
        due("pack() of nothing", x.pack(), -100);
        due("pack()", pack("<a w=1>g</a>"), 6 + 1 + 6 + 5);
        due("pack()", x.pack(), 6 + 1 + 2 + 1);
        due("pack()", pack("<a></b>"), -105);
        due("pack()", pack("<a>"), -103);
        due("pack()", pack("<a></a>g"), -107);
        for (int page = 2; page < 6; page++) {
            due("pack()", pack("<f></f>") > 0 ? 1 : 0, 1);
        }
        due("pack()", x.pack(), FULL);
        due("pack()", x.pack(), FULL);
        due("pack()", pack("<a>"), -103);
        due("count(0)", x.count(0), 6);
        fresh();
        due("pack() of 100 characters", pack("<a>" + "<b></b>".repeat(13) + "gggggg"), -200);
    }

    // ---- 4 unpackLast

    @Sentence(in = "Promise 4: unpackLast", says = "Removes the page that was packed last; what it made known is not known any more.")
    @Broken(from = "now.pageCount--; packAnew();", to = "now.pageCount--;")
    @Broken(from = "now.pageCount--; packAnew();", to = "now.bringToFront(now.pageCount - 1); now.pageCount--; packAnew();")
    @Broken(from = "words.clear(); sets.fill(0); values.fill(ABSENT);", to = "words.clear(); sets.fill(0);")
    @Broken(from = "words.clear(); sets.fill(0); values.fill(ABSENT);", to = "words.clear(); values.fill(ABSENT);")
    @Broken(from = "words.clear(); sets.fill(0); values.fill(ABSENT);", to = "sets.fill(0); values.fill(ABSENT);")
    @Broken(from = "names[around].clear();", to = "names[0].clear();")
    static void whatTheLastPageMadeKnownIsGone() {
        pack("<a w=5><b>g</b></a>");
        int second = pack("<b w=6>h<a w=7 x=1>g</a><d z=1></d></b>");
        due("unpackLast()", x.unpackLast(), 1);
        due("charAt(1, 0)", x.charAt(1, 0), UNKNOWN);
        due("bits(1, 4)", x.bits(1, 4), UNKNOWN);
        textOf(0, "<a w=5><b>g</b></a>");
        due("count(4)", x.count(4), 1);
        due("latest(0, 0)", x.latest(0, 0), 5);
        due("latest(0, 1)", x.latest(0, 1), NONE);
        due("latest(1, 0)", x.latest(1, 0), NONE);
        due("known(6, 0)", x.known(6, 0), 0);
        due("known(6, 1)", x.known(6, 1), NONE);
        due("known(1, 0)", x.known(1, 0), NONE);
        due("known(0, 0)", x.known(0, 0), 1);
        due("wouldTake(false)", x.wouldTake(false), second);
        due("pack()", x.pack(), second);
        // The last one in the order that first made.
        due("first(1)", x.first(1) > 0 ? 1 : 0, 1);
        due("unpackLast()", x.unpackLast(), 1);
        textOf(0, "<b w=6>h<a w=7 x=1>g</a><d z=1></d></b>");
        due("unpackLast()", x.unpackLast(), 0);
        due("known(6, 0)", x.known(6, 0), NONE);
        due("count(4)", x.count(4), 0);
    }

    @Sentence(in = "Promise 4: unpackLast", says = "Returns how many pages are left; NOT_POSSIBLE if there is none.")
    @Broken(from = "if (now.pageCount <= 0) { return NOT_POSSIBLE; }", to = "if (now.pageCount <= 0) { return 0; }")
    @Broken(from = "if (now.pageCount <= 0) { return NOT_POSSIBLE; }", to = "if (now.pageCount <= 1) { return NOT_POSSIBLE; }")
    static void answersOfUnpackLast() {
        due("unpackLast()", x.unpackLast(), NOT_POSSIBLE);
        write("<a></a>");
        for (int page = 0; page < 6; page++) {
            x.pack();
        }
        for (int left = 5; left >= 0; left--) {
            due("unpackLast()", x.unpackLast(), left);
            due("count(0)", x.count(0), left);
        }
        due("unpackLast()", x.unpackLast(), NOT_POSSIBLE);
        due("unpackLast()", x.unpackLast(), NOT_POSSIBLE);
    }

    // ---- 5 first

    @Sentence(in = "Promise 5: first", says = "Packs all pages anew (with the closings that were implied as they were packed)")
    @Broken(from = "now.bringToFront(page); packAnew();", to = "now.bringToFront(page);")
    @Broken(from = "now.bringToFront(page); packAnew();", to = "now.bringToFront(page); for (int each = 0; each < now.pageCount; each++) {"
        + " text.become(now.pageAt(each).letters); reader.read(text, now); now.pageAt(each).become(reader.page); } packAnew();")
    static void pagesArePackedAnew() {
        fresh("cc");
        pack("<a><c><c w=3>g</c></a>");
        pack("<b>h<c>g</c></b>");
        // The rules are others when the order changes.
        due("rule(2, 2, false)", x.rule(2, 2, false), 0);
        due("rule(2, 1, true)", x.rule(2, 1, true), 1);
        due("first(1)", x.first(1) > 0 ? 1 : 0, 1);
        textOf(0, "<b>h<c>g</c></b>");
        textOf(1, "<a><c><c w=3>g</c></a>");
        row(0, 0, 0, 1, 0, 1, 2, 2);
        row(0, 1, 1, 2);
        row(0, 2, 0, 0);
        row(0, 3, 0, 1, 1, 1, 1, 0);
        row(1, 0, 0, 0, 3, 0, 1, 2, 2);
        row(1, 1, 1, 2, 0);
        row(1, 2, 0, 0, 2, 3);
        row(1, 3, 0);
        due("count(6)", x.count(6), 1);
        due("known(6, 0)", x.known(6, 0), 0);
        due("known(6, 1)", x.known(6, 1), 1);
    }

    @Sentence(in = "Promise 5: first", says = "in another order: the page that is told first, the others behind it in their order.")
    @Broken(from = "pages[place] = pages[place - 1]; }", to = "} pages[page] = pages[0];")
    @Broken(from = "pages[0] = chosen;", to = "pages[0] = pages[1]; pages[1] = chosen;")
    static void theOthersBehindItInTheirOrder() {
        for (int page = 1; page < 6; page++) {
            fresh();
            for (char name = 'a'; name <= 'f'; name++) {
                pack("<" + name + "></" + name + ">");
            }
            due("first(" + page + ")", x.first(page) > 0 ? 1 : 0, 1);
            due("charAt(0, 1)", x.charAt(0, 1), 'a' + page);
            for (int place = 1; place < 6; place++) {
                due("charAt(" + place + ", 1)", x.charAt(place, 1), place <= page ? 'a' + place - 1 : 'a' + place);
            }
            due("undo()", x.undo(), 3);
            for (int place = 0; place < 6; place++) {
                due("charAt(" + place + ", 1)", x.charAt(place, 1), 'a' + place);
            }
        }
    }

    @Sentence(in = "Promise 5: first", says = "Returns how many bits less all pages take than before, plus 10000; UNKNOWN; NONE if it is"
        + " the first one already.")
    @Broken(from = "return before - bitsOfAllPages() + GAIN_BASE;", to = "return bitsOfAllPages() - before + GAIN_BASE;")
    @Broken(from = "GAIN_BASE = 10000", to = "GAIN_BASE = 1000")
    @Broken(from = "if (page == 0) { return NONE; }", to = "")
    @Broken(from = "return before - bitsOfAllPages() + GAIN_BASE;", to = "return Math.max(before - bitsOfAllPages(), 0) + GAIN_BASE;")
    @Broken(from = "public int first(int page) { if (!now.hasPage(page)) {", to = "public int first(int page) { if (page < 0) {")
    @Broken(from = "public int first(int page) { if (!now.hasPage(page)) {", to = "public int first(int page) { if (page >= now.pageCount) {")
    static void answersOfFirst() {
        due("first(0) without pages", x.first(0), UNKNOWN);
        due("pack()", pack("<b></b>"), 8);
        due("first(0) of one", x.first(0), NONE);
        due("first(1) of one", x.first(1), UNKNOWN);
        due("pack()", pack("<a></a>"), 8);
        // Two bits less, and two bits more on the way back.
        due("first(1)", x.first(1), 10002);
        due("count(2)", x.count(2), 14);
        due("first(1)", x.first(1), 9998);
        due("count(2)", x.count(2), 16);
        due("pack()", x.pack(), 6);
        // As many bits as before: 8, 8 and 6, and then 6, 8 and 8.
        due("first(2)", x.first(2), 10000);
        due("count(2)", x.count(2), 22);
        for (int page : new int[] {LEAST, -1, 3, 6, MOST}) {
            due("first(" + page + ")", x.first(page), UNKNOWN);
        }
        due("first(0)", x.first(0), NONE);
    }

    // ---- 6 type, 7 clearText

    @Sentence(in = "Promise 6: type", says = "`character`: any character")
    @Broken(from = "text.add(character);", to = "if (character > 0) { text.add(character); }")
    @Broken(from = "text.add(character);", to = "text.add(character & 127);")
    @Broken(from = "text.add(character);", to = "text.add((byte) character);")
    static void anyCharacter() {
        char[] all = {0, 1, 9, 10, 13, 31, 32, 127, 128, 255, 256, 0x7fff, 0x8000, 0xd800, 0xfffe, 0xffff};
        for (int i = 0; i < all.length; i++) {
            due("type " + (int) all[i], x.type(all[i]), i + 1);
        }
        due("fault(0)", x.fault(0), 0);
        due("fault(1)", x.fault(1), 1);
        due("clearText()", x.clearText(), all.length);
        // What is like "<" but for its higher bits is none.
        for (int bits = 1; bits < 1 << 10; bits <<= 1) {
            fresh();
            due("type", x.type((char) ('<' + (bits << 6))), 1);
            due("fault(1)", x.fault(1), 1);
        }
    }

    @Sentence(in = "Promise 6: type", says = "Returns the length of the text then; FULL if it has 100 characters.")
    @Broken(from = "MOST_TYPED = 100", to = "MOST_TYPED = 99")
    @Broken(from = "MOST_TYPED = 100", to = "MOST_TYPED = 101")
    @Broken(from = "if (text.size() >= MOST_TYPED) { return FULL; }", to = "")
    @Broken(from = "text.add(character); return text.size();", to = "text.add(character); return text.size() - 1;")
    static void typing() {
        for (int length = 1; length <= 100; length++) {
            due("type", x.type('g'), length);
        }
        due("type", x.type('g'), FULL);
        due("type", x.type('<'), FULL);
        due("count(8)", x.count(8), 100);
        due("clearText()", x.clearText(), 100);
        due("type", x.type('g'), 1);
    }

    @Sentence(in = "Promise 7: clearText", says = "Returns the length that it had.")
    @Broken(from = "text.clear(); return length;", to = "return length;")
    @Broken(from = "int length = text.size(); text.clear();", to = "text.clear(); int length = text.size();")
    static void clearing() {
        due("clearText() of none", x.clearText(), 0);
        due("type", x.type('<'), 1);
        due("clearText()", x.clearText(), 1);
        due("clearText()", x.clearText(), 0);
        due("count(8)", x.count(8), 0);
        due("fault(0)", x.fault(0), 0);
        write("g".repeat(100));
        due("clearText()", x.clearText(), 100);
        due("clearText()", x.clearText(), 0);
        // The pages stay.
        pack("<a></a>");
        due("clearText()", x.clearText(), 7);
        textOf(0, "<a></a>");
        due("count(7)", x.count(7), 1);
    }

    // ---- 8 fault

    @Sentence(in = "Promise 8: fault", says = "0 for its place, 1 for its kind, 2 for what caused it")
    @Broken(from = "if (what == 0) { return reader.faultPlace; }", to = "if (what == 1) { return reader.faultPlace; }")
    @Broken(from = "return what == 1 ? reader.faultKind : reader.faultCause;", to = "return what == 2 ? reader.faultKind : reader.faultCause;")
    @Broken(from = "public int fault(int what) { if (what < 0 || what > 2) { return BAD_VALUE; } reader.read(text, now);",
        to = "public int fault(int what) { if (what < 0 || what > 2) { return BAD_VALUE; } if (what == 0) { reader.read(text, now); }")
    static void placeKindAndCause() {
        fault("<a><b w=1 w=2>", 10, 2, 6);
        fault("<a></b>", 5, 3, 0);
        // Each of them is told of the text as it is then.
        write("<a><b>");
        due("fault(1)", x.fault(1), 0);
        x.type('!');
        due("fault(1)", x.fault(1), 1);
        x.clearText();
        due("fault(1)", x.fault(1), 0);
        due("fault(2)", x.fault(2), NONE);
    }

    @Sentence(in = "Promise 8: fault", says = "Returns the number; BAD_VALUE; NONE if the text is a page, and for 2 if the kind is"
        + " neither 2 nor 3.")
    @Broken(from = "if (what < 0 || what > 2) {", to = "if (what > 2) {")
    @Broken(from = "if (what < 0 || what > 2) {", to = "if (what < 0 || what > 3) {")
    @Broken(from = "if (!reader.hasFault()) { return NONE; }", to = "")
    @Broken(from = "faultCause = cause; }", to = "if (cause != NONE) { faultCause = cause; } }")
    @Broken(from = "tell(place, SEVENTH_BOX, NONE)", to = "tell(place, SEVENTH_BOX, page.boxPlaces.at(open.last()))")
    @Broken(from = "tell(place, NINTH_LETTER, NONE)", to = "tell(place, NINTH_LETTER, page.wordPlaces.last())")
    @Broken(from = "tell(place, BEHIND_PAGE, NONE)", to = "tell(place, BEHIND_PAGE, 0)")
    @Broken(from = "tell(text.size(), ENDS_EARLY, NONE)", to = "tell(text.size(), ENDS_EARLY, page.boxPlaces.at(open.last()))")
    @Broken(from = "tell(place, WRONG_CHARACTER, NONE); } } private void takeBehindMark",
        to = "tell(place, WRONG_CHARACTER, 0); } } private void takeBehindMark")
    static void answersOfFault() {
        for (int what : new int[] {LEAST, -1, 3, 4, MOST}) {
            due("fault(" + what + ") of no page", x.fault(what), BAD_VALUE);
        }
        noFault("<a></a>");
        for (int what : new int[] {LEAST, -1, 3, 4, MOST}) {
            due("fault(" + what + ") of a page", x.fault(what), BAD_VALUE);
        }
        fault("<a w=1 w", 7, 2, 3);
        fault("<a", 2, 0, NONE);
        fault("<a!", 2, 1, NONE);
        fault("<a v", 3, 1, NONE);
        fault("<a><a></b", 8, 3, 3);
        fault("<a><a><a><a><a><a><a", 18, 4, NONE);
        fault("<a>ggggggggg", 11, 5, NONE);
        fault("<a></g", 5, 1, NONE);
        fault("<a></ag", 6, 1, NONE);
        fault("<a></a>g", 7, 6, NONE);
        // The cause may be the place 0.
        fault("<a></b", 5, 3, 0);
        noFault("<a></a>");
    }

    // ---- 9 undo, 10 keep, 11 restore

    @Sentence(in = "Promise 9: undo", says = "Returns the number of states that are left; NONE if the history is empty.")
    @Broken(from = "packAnew(); return historySize;", to = "packAnew(); return now.pageCount;")
    @Broken(from = "if (historySize <= 0 || historySize > history.length) { return NONE;", to = "if (historySize <= 1 || historySize > history.length) { return NONE;")
    @Broken(from = "if (historySize <= 0 || historySize > history.length) { return NONE;", to = "if (historySize <= 0 || historySize >= history.length) { return NONE;")
    @Broken(from = "if (historySize <= 0 || historySize > history.length) { return NONE;", to = "if (historySize <= 0 || historySize > history.length) { return 0;")
    static void answersOfUndo() {
        due("undo()", x.undo(), NONE);
        due("undo()", x.undo(), NONE);
        x.rule(0, 0, true);
        due("undo()", x.undo(), 0);
        due("undo()", x.undo(), NONE);
        write("<a></a>");
        for (int page = 0; page < 6; page++) {
            x.pack();
        }
        for (int left = 3; left >= 0; left--) {
            due("undo()", x.undo(), left);
            due("count(7)", x.count(7), left);
            due("count(0)", x.count(0), left + 2);
        }
        due("undo()", x.undo(), NONE);
        due("count(0)", x.count(0), 2);
    }

    @Sentence(in = "Promise 10: keep", says = "Takes a snapshot of the state, in place of the one that was.")
    @Broken(from = "snapshot.become(now);", to = "if (now.pageCount > 0) { snapshot.become(now); }")
    @Broken(from = "snapshot.become(now);", to = "if (!hasSnapshot) { snapshot.become(now); }")
    @Broken(from = "snapshot.become(now);", to = "snapshot.become(now); snapshot.setEnds(0, 0, false);")
    static void theSnapshotThatWasIsGone() {
        fresh("aa");
        pack("<a w=1>g</a>");
        due("keep()", x.keep(), 1);
        x.rule(0, 0, false);
        pack("<b></b>");
        due("keep()", x.keep(), 2);
        x.unpackLast();
        x.unpackLast();
        due("restore()", x.restore(), 2);
        due("count(1)", x.count(1), 0);
        textOf(1, "<b></b>");
        due("undo()", x.undo(), 3);
        due("keep() of no pages", x.keep(), 0);
        pack("<c></c>");
        due("restore()", x.restore(), 0);
        due("count(0)", x.count(0), 0);
        due("known(6, 0)", x.known(6, 0), NONE);
        fresh("aa");
        due("keep()", x.keep(), 0);
        x.rule(0, 0, false);
        due("restore()", x.restore(), 0);
        due("count(1)", x.count(1), 1);
    }

    @Sentence(in = "Promise 10: keep", says = "Returns the number of pages.")
    @Broken(from = "hasSnapshot = true; return now.pageCount;", to = "hasSnapshot = true; return historySize;")
    @Broken(from = "hasSnapshot = true; return now.pageCount;", to = "hasSnapshot = true; return Math.min(now.pageCount, 5);")
    static void answersOfKeep() {
        write("<a></a>");
        for (int pages = 0; pages < 6; pages++) {
            due("keep()", x.keep(), pages);
            due("keep() again", x.keep(), pages);
            x.pack();
        }
        due("keep()", x.keep(), 6);
        due("count(7), no act", x.count(7), 4);
        due("undo()", x.undo(), 3);
        due("keep()", x.keep(), 5);
    }

    @Sentence(in = "Promise 11: restore", says = "Restores the state of the snapshot, which stays. This is an act.")
    @Broken(from = "recordState(); now.become(snapshot);", to = "recordState(); now.become(snapshot); hasSnapshot = false;")
    @Broken(from = "recordState(); now.become(snapshot);", to = "recordState(); now.become(snapshot); snapshot.become(history[0]);")
    @Broken(from = "recordState(); now.become(snapshot);", to = "now.become(snapshot);")
    @Broken(from = "now.become(snapshot); packAnew();", to = "now.become(snapshot);")
    static void theSnapshotStays() {
        fresh("ab");
        String one = "<a w=4><b>g</a>";
        String two = "<c>h</c>";
        int bits = pack(one);
        bits += pack(two);
        due("keep()", x.keep(), 2);
        // What is done to the pages is not done to the snapshot.
        x.first(1);
        x.rule(0, 1, false);
        x.unpackLast();
        pack("<d></d>");
        due("restore()", x.restore(), 2);
        due("count(7)", x.count(7), 4);
        textOf(0, one);
        textOf(1, two);
        due("count(1)", x.count(1), 1);
        due("count(2)", x.count(2), bits);
        due("count(4)", x.count(4), 2);
        due("latest(0, 0)", x.latest(0, 0), 4);
        due("known(6, 0)", x.known(6, 0), 2);
        due("known(6, 1)", x.known(6, 1), 0);
        due("undo()", x.undo(), 3);
        due("charAt(1, 1)", x.charAt(1, 1), 'd');
        x.unpackLast();
        x.unpackLast();
        due("restore()", x.restore(), 2);
        due("restore()", x.restore(), 2);
        textOf(0, one);
        textOf(1, two);
    }

    @Sentence(in = "Promise 11: restore", says = "Returns the number of pages then; NONE if there is no snapshot.")
    @Broken(from = "public int restore() { if (!hasSnapshot) { return NONE; }", to = "public int restore() { if (snapshot.pageCount == 0) { return NONE; }")
    @Broken(from = "public int restore() { if (!hasSnapshot) { return NONE; }", to = "public int restore() {")
    static void answersOfRestore() {
        due("restore()", x.restore(), NONE);
        pack("<a></a>");
        due("restore()", x.restore(), NONE);
        due("count(0)", x.count(0), 1);
        x.unpackLast();
        due("keep()", x.keep(), 0);
        write("<a></a>");
        for (int page = 0; page < 6; page++) {
            x.pack();
        }
        due("restore()", x.restore(), 0);
        due("undo()", x.undo(), 3);
        due("keep()", x.keep(), 6);
        x.unpackLast();
        due("restore()", x.restore(), 6);
        due("restore() once more", x.restore(), 6);
    }

    // ---- 12 charAt

    @Sentence(in = "Promise 12: charAt", says = "`place`: a place in its text, from 0")
    @Broken(from = "place < letters.size() ? letters.at(place) : NONE", to = "place < letters.size() ? letters.at(place + 1) : NONE")
    @Broken(from = "Row letters = now.pageAt(page).letters;", to = "Row letters = text;")
    static void placesInAText() {
        fresh("bb", "ab");
        String one = "<a z=9 w=0>ghijklmn<b y=5>opqrstuv<b></a>";
        String two = "<f></f>";
        pack(one);
        pack(two);
        x.rule(0, 1, false);
        x.clearText();
        textOf(0, one);
        textOf(1, two);
        x.first(1);
        textOf(0, two);
        textOf(1, one);
    }

    @Sentence(in = "Promise 12: charAt", says = "Returns the code of the character there; UNKNOWN; BAD_VALUE if place is negative; NONE"
        + " if its text is not so long.")
    @Broken(from = "if (place < 0) { return BAD_VALUE; }", to = "")
    @Broken(from = "if (place < 0) { return BAD_VALUE; }", to = "if (place <= 0) { return BAD_VALUE; }")
    @Broken(from = "place < letters.size() ? letters.at(place) : NONE", to = "place <= letters.size() ? letters.at(place) : NONE")
    @Broken(from = "place < letters.size() ? letters.at(place) : NONE", to = "place < letters.size() - 1 ? letters.at(place) : NONE")
    @Broken(from = "public int charAt(int page, int place) { if (!now.hasPage(page)) {", to = "public int charAt(int page, int place) { if (page >= now.pageCount) {")
    @Broken(from = "public int charAt(int page, int place) { if (!now.hasPage(page)) {", to = "public int charAt(int page, int place) { if (page < 0 || page > 5) {")
    static void answersOfCharAt() {
        due("charAt(0, 0) without pages", x.charAt(0, 0), UNKNOWN);
        pack("<a></a>");
        due("charAt(0, 0)", x.charAt(0, 0), '<');
        due("charAt(0, 6)", x.charAt(0, 6), '>');
        due("charAt(0, 7)", x.charAt(0, 7), NONE);
        due("charAt(0, 99)", x.charAt(0, 99), NONE);
        due("charAt(0, 100)", x.charAt(0, 100), NONE);
        due("charAt(0, most)", x.charAt(0, MOST), NONE);
        due("charAt(0, -1)", x.charAt(0, -1), BAD_VALUE);
        due("charAt(0, least)", x.charAt(0, LEAST), BAD_VALUE);
        for (int page : new int[] {LEAST, -1, 1, 5, 6, MOST}) {
            due("charAt(" + page + ", 0)", x.charAt(page, 0), UNKNOWN);
        }
    }

    // ---- 13 code

    @Sentence(in = "Promise 13: code", says = "`row`: 0 for the steps, 1 for the names, 2 for the notes, 3 for the words")
    @Broken(from = "ROW_OF_STEPS = 0; private static final int ROW_OF_NAMES = 1", to = "ROW_OF_STEPS = 1; private static final int ROW_OF_NAMES = 0")
    @Broken(from = "ROW_OF_NAMES = 1; private static final int ROW_OF_NOTES = 2", to = "ROW_OF_NAMES = 2; private static final int ROW_OF_NOTES = 1")
    @Broken(from = "ROWS = 4", to = "ROWS = 3")
    @Broken(from = "MOST_CODES = 100", to = "MOST_CODES = 86")
    static void rowsOfCodes() {
        pack("<b w=6>j</b>");
        row(0, 0, 0, 1, 2);
        row(0, 1, 1);
        row(0, 2, 2, 6);
        row(0, 3, 0, 1, 3);
        // The longest row that a page has room for: eight words of eight letters and one of five.
        fresh("bb", "ab");
        String longest = "<a>ghijklmn" + "<b>ghijklmo<b>ghijklmp<b>ghijklmq<b>ghijklmr<b>ghijklms<b>ghijklmt<b>ghijklmu"
            + "<b>vvvvv</a>";
        due("the length", longest.length(), 100);
        pack(longest);
        due("code(0, 3, 79)", x.code(0, 3, 79), 14);
        due("code(0, 3, 80)", x.code(0, 3, 80), 8);
        due("code(0, 3, 86)", x.code(0, 3, 86), 15);
        due("code(0, 3, 87)", x.code(0, 3, 87), NONE);
        due("bits(0, 0)", x.bits(0, 0), 2 * 27);
    }

    @Sentence(in = "Promise 13: code", says = "`place`: a place in the row, from 0")
    @Broken(from = "return place < codes.size() ? codes.at(place) : NONE;", to = "return place < codes.size() ? codes.at(codes.size() - 1 - place) : NONE;")
    @Broken(from = "return place < codes.size() ? codes.at(place) : NONE;", to = "return place > 0 && place <= codes.size() ? codes.at(place - 1) : NONE;")
    static void placesInARow() {
        pack("<c w=1>gh<d></d></c>");
        due("code(0, 0, 0)", x.code(0, 0, 0), 0);
        due("code(0, 0, 4)", x.code(0, 0, 4), 2);
        due("code(0, 1, 0)", x.code(0, 1, 0), 2);
        due("code(0, 1, 1)", x.code(0, 1, 1), 3);
        due("code(0, 2, 0)", x.code(0, 2, 0), 2);
        due("code(0, 2, 2)", x.code(0, 2, 2), 0);
        due("code(0, 3, 0)", x.code(0, 3, 0), 0);
        due("code(0, 3, 1)", x.code(0, 3, 1), 2);
        due("code(0, 3, 3)", x.code(0, 3, 3), 1);
    }

    @Sentence(in = "Promise 13: code", says = "Returns the number there; UNKNOWN; BAD_VALUE (row, or place is negative); NONE if the row"
        + " is not so long.")
    @Broken(from = "if (row < 0 || row >= ROWS || place < 0) {", to = "if (row >= ROWS || place < 0) {")
    @Broken(from = "if (row < 0 || row >= ROWS || place < 0) {", to = "if (row < 0 || row > ROWS || place < 0) {")
    @Broken(from = "if (row < 0 || row >= ROWS || place < 0) {", to = "if (row < 0 || row >= ROWS) {")
    @Broken(from = "if (row < 0 || row >= ROWS || place < 0) {", to = "if (row < 0 || row >= ROWS || place <= 0) {")
    @Broken(from = "return place < codes.size() ? codes.at(place) : NONE;", to = "return place <= codes.size() ? codes.at(place) : NONE;")
    @Broken(from = "public int code(int page, int row, int place) { if (!now.hasPage(page)) {",
        to = "public int code(int page, int row, int place) { if (page < 0 || page > 5) {")
    static void answersOfCode() {
        due("code(0, 0, 0) without pages", x.code(0, 0, 0), UNKNOWN);
        pack("<a></a>");
        row(0, 0, 0, 2);
        row(0, 1, 0);
        row(0, 2, 0);
        row(0, 3);
        for (int row : new int[] {LEAST, -1, 4, 5, MOST}) {
            due("code(0, " + row + ", 0)", x.code(0, row, 0), BAD_VALUE);
        }
        for (int row = 0; row < 4; row++) {
            due("code(0, " + row + ", -1)", x.code(0, row, -1), BAD_VALUE);
            due("code(0, " + row + ", least)", x.code(0, row, LEAST), BAD_VALUE);
            due("code(0, " + row + ", 100)", x.code(0, row, 100), NONE);
            due("code(0, " + row + ", most)", x.code(0, row, MOST), NONE);
        }
        for (int page : new int[] {LEAST, -1, 1, 5, 6, MOST}) {
            due("code(" + page + ", 0, 0)", x.code(page, 0, 0), UNKNOWN);
        }
    }

    // ---- 14 bits

    @Sentence(in = "Promise 14: bits", says = "3 for the words, 4 for all four")
    @Broken(from = "return row == ROWS ? codes.bitsOfAll() : codes.bitsOfRow(row);", to = "return row > ROWS ? codes.bitsOfAll() : codes.bitsOfRow(row);")
    @Broken(from = "for (int row = 0; row < ROWS; row++) { sum += bitsOfRow(row); }", to = "for (int row = 0; row < ROWS - 1; row++) { sum += bitsOfRow(row); }")
    @Broken(from = "for (int row = 0; row < ROWS; row++) { sum += bitsOfRow(row); }", to = "for (int row = 1; row < ROWS; row++) { sum += bitsOfRow(row); }")
    static void bitsOfRows() {
        due("pack()", pack("<f w=9>g<f></f></f>"), 10 + 10 + 13 + 5);
        due("bits(0, 0)", x.bits(0, 0), 10);
        due("bits(0, 1)", x.bits(0, 1), 5 + 5);
        due("bits(0, 2)", x.bits(0, 2), 3 + 7 + 3);
        due("bits(0, 3)", x.bits(0, 3), 1 + 3 + 1);
        due("bits(0, 4)", x.bits(0, 4), 38);
        // A page as it was packed, with what was known then.
        due("pack()", pack("<f w=9>g<f></f></f>"), 10 + 2 + 7 + 1);
        due("bits(0, 4)", x.bits(0, 4), 38);
        due("bits(1, 4)", x.bits(1, 4), 20);
        due("bits(1, 2)", x.bits(1, 2), 3 + 1 + 3);
    }

    @Sentence(in = "Promise 14: bits", says = "Returns the bits that the row takes; UNKNOWN; BAD_VALUE.")
    @Broken(from = "if (row < 0 || row > ROWS) {", to = "if (row < 0 || row > ROWS + 1) {")
    @Broken(from = "if (row < 0 || row > ROWS) {", to = "if (row > ROWS) {")
    @Broken(from = "if (row < 0 || row > ROWS) {", to = "if (row < 0 || row >= ROWS) {")
    @Broken(from = "public int bits(int page, int row) { if (!now.hasPage(page)) {", to = "public int bits(int page, int row) { if (page < 0 || page > 5) {")
    static void answersOfBits() {
        due("bits(0, 0) without pages", x.bits(0, 0), UNKNOWN);
        pack("<a></a>");
        due("bits(0, 0)", x.bits(0, 0), 4);
        due("bits(0, 3) of no words", x.bits(0, 3), 0);
        due("bits(0, 4)", x.bits(0, 4), 6);
        for (int row : new int[] {LEAST, -1, 5, 6, MOST}) {
            due("bits(0, " + row + ")", x.bits(0, row), BAD_VALUE);
        }
        for (int page : new int[] {LEAST, -1, 1, 5, 6, MOST}) {
            due("bits(" + page + ", 4)", x.bits(page, 4), UNKNOWN);
        }
    }

    // ---- 15 wouldTake

    @Sentence(in = "Promise 15: wouldTake", says = "`alone`: whether nothing would be known, as if it was the first page")
    @Broken(from = "int before = alone ? 0 : now.pageCount;", to = "int before = alone ? now.pageCount : 0;")
    @Broken(from = "int before = alone ? 0 : now.pageCount;", to = "int before = alone ? 0 : 1;")
    @Broken(from = "trialKnowledge.forget();", to = "")
    @Broken(from = "trialKnowledge.take(reader.page, trialCodes); return", to = "(alone ? trialKnowledge : knowledge).take(reader.page, trialCodes); return")
    static void aloneOrBehindThePages() {
        String page = "<b w=3>gh<b></b></b>";
        int alone = 10 + 6 + (3 + 5 + 3) + (1 + 3 + 1 + 3);
        write(page);
        due("alone, without pages", x.wouldTake(true), alone);
        due("not alone, without pages", x.wouldTake(false), alone);
        due("pack()", x.pack(), alone);
        pack("<a w=1>g</a>");
        write(page);
        int behind = 10 + (3 + 1) + (3 + 1 + 3) + 3;
        due("alone", x.wouldTake(true), alone);
        due("not alone", x.wouldTake(false), behind);
        due("not alone again", x.wouldTake(false), behind);
        due("alone again", x.wouldTake(true), alone);
        // Nothing was learnt by asking.
        due("count(4)", x.count(4), 2);
        due("known(6, 0)", x.known(6, 0), 0);
        due("pack()", x.pack(), behind);
    }

    @Sentence(in = "Promise 15: wouldTake", says = "Returns the bits; -100 minus the fault of the text as a page if it has one (which is"
        + " an error).")
    @Broken(from = "return FAULT_BASE - reader.faultPlace; } trial", to = "return FAULT_BASE; } trial")
    @Broken(from = "return FAULT_BASE - reader.faultPlace; } trial", to = "return FAULT_BASE - reader.faultPlace; } if (now.pageCount >= MOST_PAGES) { return FULL; } trial")
    @Broken(from = "reader.read(text, now); if (reader.hasFault()) { return FAULT_BASE - reader.faultPlace; } trial", to = "reader.read(text, now); trial")
    static void answersOfWouldTake() {
        due("wouldTake(true) of nothing", x.wouldTake(true), -100);
        due("wouldTake(false) of nothing", x.wouldTake(false), -100);
        write("<a></a");
        due("wouldTake(true)", x.wouldTake(true), -106);
        due("type", x.type('>'), 7);
        due("wouldTake(true)", x.wouldTake(true), 6);
        // It is told also where there is no room to pack it.
        for (int page = 0; page < 6; page++) {
            x.pack();
        }
        due("pack()", x.pack(), FULL);
        due("wouldTake(true)", x.wouldTake(true), 6);
        due("wouldTake(false)", x.wouldTake(false), 6);
        due("type", x.type('>'), 8);
        due("wouldTake(false)", x.wouldTake(false), -107);
        fresh();
        write("<a>" + "<b></b>".repeat(13) + "gggggg");
        due("wouldTake(true)", x.wouldTake(true), -200);
        due("wouldTake(false)", x.wouldTake(false), -200);
    }

    // ---- 16 path

    @Sentence(in = "Promise 16: path", says = "0 for the place of the \"<\" of its box in the text of the page, 1 for how many words stand"
        + " in it directly, 2 for how many boxes do, 3 for its keys (as bits)")
    @Broken(from = "return page.boxPlaces.at(box); case", to = "return page.boxPlaces.at(box) + 1; case")
    @Broken(from = "return page.wordsAround.countOf(box); case", to = "return page.wordsAround.size(); case")
    @Broken(from = "return page.boxesAround.countOf(box); case", to = "return page.boxesAround.size() - 1; case")
    @Broken(from = "return page.keySet(box); case", to = "return Integer.bitCount(page.keySet(box)); case")
    @Broken(from = "page.addWord(place, open.last());", to = "page.addWord(place, page.boxNames.size() - 1);")
    static void whatAPathTells() {
        fresh("bb");
        pack("<a z=1 x=2>g<b>h<c>i</c>j<c></c></b><b w=1 x=1 y=1 z=1>k<d>l</d></b></a>");
        path(0, "a", 0, 1, 2, 10, 1, 1);
        path(0, "a/b", 12, 2, 2, 0, 1, 2);
        path(0, "a/b/c", 16, 1, 0, 0, 1, 3);
        path(0, "a/b/c2", 25, 0, 0, 0, NONE, 3);
        path(0, "a/b2", 36, 1, 1, 15, 1, 2);
        path(0, "a/b2/d", 56, 1, 0, 0, 1, 3);
        // A box whose closing is implied holds what stands ahead of that.
        pack("<a><b>g<b>h<d></d></b>i</a>");
        path(1, "a", 0, 1, 2, 0, 1, 1);
        path(1, "a/b", 3, 1, 0, 0, 1, 2);
        path(1, "a/b2", 7, 1, 1, 0, 1, 2);
        path(1, "a/b2/d", 11, 0, 0, 0, NONE, 3);
    }

    @Sentence(in = "Promise 16: path", says = "4 for the length of the first word that stands in it directly (NONE without one)")
    @Broken(from = "return word == ABSENT ? NONE : page.wordLengths.at(word);", to = "return page.wordLengths.at(word);")
    @Broken(from = "return word == ABSENT ? NONE : page.wordLengths.at(word);", to = "return word == ABSENT ? NONE : page.wordLengths.last();")
    @Broken(from = "int word = page.wordsAround.placeOf(box);", to = "int word = page.wordLengths.size() > 0 ? 0 : ABSENT;")
    static void theFirstWordDirectlyInside() {
        pack("<a><b>ggg</b>gg<b></b>ggggg<c><d>h</d></c></a>");
        write("a");
        due("path(0, 4) of a", x.path(0, 4), 2);
        write("a/b");
        due("path(0, 4) of a/b", x.path(0, 4), 3);
        write("a/b2");
        due("path(0, 4) of a/b2", x.path(0, 4), NONE);
        write("a/c");
        due("path(0, 4) of a/c", x.path(0, 4), NONE);
        write("a/c/d");
        due("path(0, 4) of a/c/d", x.path(0, 4), 1);
        pack("<a><b></b>ghijklmn</a>");
        write("a");
        due("path(1, 4) of a", x.path(1, 4), 8);
        write("a/b");
        due("path(1, 4) of a/b", x.path(1, 4), NONE);
        pack("<a></a>");
        write("a");
        due("path(2, 4) of a", x.path(2, 4), NONE);
    }

    @Sentence(in = "Promise 16: path", says = "5 for its depth (1 for the outermost box)")
    @Broken(from = "return pathReader.partCount();", to = "return pathReader.partCount() - 1;")
    @Broken(from = "return pathReader.partCount();", to = "return Math.min(pathReader.partCount(), 5);")
    static void depths() {
        pack("<a><a><a><a><a><a></a></a></a></a></a></a>");
        StringBuilder text = new StringBuilder("a");
        for (int depth = 1; depth <= 6; depth++) {
            write(text.toString());
            due("path(0, 5) of " + text, x.path(0, 5), depth);
            text.append("/a1");
        }
        write(text.toString());
        due("path(0, 5) of " + text, x.path(0, 5), NONE);
    }

    @Sentence(in = "Promise 16: path", says = "Returns the number; UNKNOWN; BAD_VALUE; -100 minus the fault of the text as a path if it"
        + " has one (which is an error); NONE if there is no such box.")
    @Broken(from = "if (what < 0 || what > 5) {", to = "if (what < 0 || what > 6) {")
    @Broken(from = "if (what < 0 || what > 5) {", to = "if (what > 5) {")
    @Broken(from = "if (what < 0 || what > 5) {", to = "if (what < 0 || what > 4) {")
    @Broken(from = "return FAULT_BASE - place; }", to = "return FAULT_BASE + place; }")
    @Broken(from = "return box == ABSENT ? NONE", to = "return box == ABSENT ? UNKNOWN")
    @Broken(from = "public int path(int page, int what) { if (!now.hasPage(page)) {", to = "public int path(int page, int what) { if (page < 0 || page > 5) {")
    static void answersOfPath() {
        write("a");
        due("path(0, 0) without pages", x.path(0, 0), UNKNOWN);
        pack("<a></a>");
        path(0, "a", 0, 0, 0, 0, NONE, 1, BAD_VALUE);
        for (int what : new int[] {LEAST, -1, 6, 7, MOST}) {
            due("path(0, " + what + ")", x.path(0, what), BAD_VALUE);
        }
        for (int page : new int[] {LEAST, -1, 1, 5, 6, MOST}) {
            due("path(" + page + ", 0)", x.path(page, 0), UNKNOWN);
        }
        leadsToNone("b");
        leadsToNone("a/a");
        pathFault("", 0);
        pathFault("a/", 2);
        pathFault("a/a/a/a/a/0", 10);
    }

    // ---- 17 known, 18 latest

    @Sentence(in = "Promise 17: known", says = "`name`: 0 to 5 for a name around, or 6 for none")
    @Broken(from = "if (name < 0 || name > NAMES) {", to = "if (name < 0 || name >= NAMES) {")
    @Broken(from = "if (name < 0 || name > NAMES) {", to = "if (name < 0 || name > NAMES + 1) {")
    @Broken(from = "if (name < 0 || name > NAMES) {", to = "if (name < -1 || name > NAMES) {")
    @Broken(from = "if (name < 0 || name > NAMES) {", to = "if (name <= 0 || name > NAMES) {")
    static void namesAround() {
        pack("<a><b><c><d><e><f></f></e></d></c></b></a>");
        for (int name = 0; name < 5; name++) {
            due("known(" + name + ", 0)", x.known(name, 0), name + 1);
        }
        due("known(5, 0)", x.known(5, 0), NONE);
        due("known(6, 0)", x.known(6, 0), 0);
        pack("<f><a></a></f>");
        due("known(5, 0)", x.known(5, 0), 0);
        due("known(6, 0)", x.known(6, 0), 5);
        for (int name : new int[] {LEAST, -1, 7, 8, MOST}) {
            due("known(" + name + ", 0)", x.known(name, 0), UNKNOWN);
        }
    }

    @Sentence(in = "Promise 17: known", says = "Returns the number of the name; UNKNOWN; BAD_VALUE if rank is negative; NONE if the list"
        + " is not so long.")
    @Broken(from = "if (rank < 0) {", to = "if (rank <= 0) {")
    @Broken(from = "if (rank < 0) {", to = "if (rank < -1) {")
    @Broken(from = "rank < list.size() ? (int) list.at(rank) : NONE", to = "rank <= list.size() ? (int) list.at(rank) : NONE")
    @Broken(from = "rank < list.size() ? (int) list.at(rank) : NONE", to = "rank < list.size() ? (int) list.at(list.size() - 1 - rank) : NONE")
    static void answersOfKnown() {
        due("known(6, 0) without pages", x.known(6, 0), NONE);
        due("known(6, -1) without pages", x.known(6, -1), BAD_VALUE);
        pack("<f><a></a><b></b><c></c><d></d><e></e><f></f></f>");
        for (int rank = 0; rank < 6; rank++) {
            due("known(5, " + rank + ")", x.known(5, rank), 5 - rank);
        }
        due("known(5, 6)", x.known(5, 6), NONE);
        due("known(5, most)", x.known(5, MOST), NONE);
        due("known(6, 1)", x.known(6, 1), NONE);
        due("known(0, 0)", x.known(0, 0), NONE);
        for (int rank : new int[] {LEAST, -2, -1}) {
            due("known(5, " + rank + ")", x.known(5, rank), BAD_VALUE);
            due("known(0, " + rank + ")", x.known(0, rank), BAD_VALUE);
            due("known(7, " + rank + ")", x.known(7, rank), UNKNOWN);
        }
    }

    @Sentence(in = "Promise 18: latest", says = "`name`: 0 to 5 - `key`: 0 for w to 3 for z")
    @Broken(from = "if (!isName(name) || key < 0 || key >= KEYS) {", to = "if (name < 0 || key < 0 || key >= KEYS) {")
    @Broken(from = "if (!isName(name) || key < 0 || key >= KEYS) {", to = "if (!isName(name) || key >= KEYS) {")
    @Broken(from = "if (!isName(name) || key < 0 || key >= KEYS) {", to = "if (!isName(name) || key < 0 || key > KEYS) {")
    @Broken(from = "if (!isName(name) || key < 0 || key >= KEYS) {", to = "if (!isName(name) || key < 0 || key >= KEYS - 1) {")
    @Broken(from = "return values.at(name * KEYS + key);", to = "return values.at(name * KEYS + 3 - key);")
    static void namesAndKeys() {
        pack("<a w=1 x=2 y=3 z=4><f w=5 x=6 y=7 z=8></f></a>");
        for (int key = 0; key < 4; key++) {
            due("latest(0, " + key + ")", x.latest(0, key), key + 1);
            due("latest(5, " + key + ")", x.latest(5, key), key + 5);
        }
        for (int odd : new int[] {LEAST, -1, 6, 7, MOST}) {
            due("latest(" + odd + ", 0)", x.latest(odd, 0), UNKNOWN);
            due("latest(" + odd + ", 3)", x.latest(odd, 3), UNKNOWN);
        }
        for (int odd : new int[] {LEAST, -1, 4, 5, MOST}) {
            due("latest(0, " + odd + ")", x.latest(0, odd), UNKNOWN);
            due("latest(5, " + odd + ")", x.latest(5, odd), UNKNOWN);
            due("latest(6, " + odd + ")", x.latest(6, odd), UNKNOWN);
        }
    }

    @Sentence(in = "Promise 18: latest", says = "Returns the value; UNKNOWN (name or key); NONE if there was none.")
    @Broken(from = "return value == ABSENT ? NONE : value;", to = "return value <= 0 ? NONE : value;")
    @Broken(from = "return value == ABSENT ? NONE : value;", to = "return Math.max(value, 0);")
    @Broken(from = "values.put(name * KEYS + key, value);", to = "if (valueOf(name, key) < 0) { values.put(name * KEYS + key, value); }")
    static void answersOfLatest() {
        due("latest(0, 0) without pages", x.latest(0, 0), NONE);
        pack("<a w=0><b x=9></b></a>");
        due("latest(0, 0)", x.latest(0, 0), 0);
        due("latest(0, 1)", x.latest(0, 1), NONE);
        due("latest(1, 0)", x.latest(1, 0), NONE);
        due("latest(1, 1)", x.latest(1, 1), 9);
        due("latest(5, 3)", x.latest(5, 3), NONE);
        pack("<b x=8><b x=7></b><b></b></b>");
        due("latest(1, 1)", x.latest(1, 1), 7);
        pack("<b x=0></b>");
        due("latest(1, 1)", x.latest(1, 1), 0);
        due("latest(0, 0)", x.latest(0, 0), 0);
        x.unpackLast();
        due("latest(1, 1)", x.latest(1, 1), 7);
        x.unpackLast();
        due("latest(1, 1)", x.latest(1, 1), 9);
        x.unpackLast();
        due("latest(1, 1)", x.latest(1, 1), NONE);
    }

    // ---- 19 count

    @Sentence(in = "Promise 19: count", says = "0 for pages, 1 for rules, 2 for the bits of all pages, 3 for the characters of all pages, 4"
        + " for the words that are known, 5 for boxes of all pages, 6 for closings that are implied in all pages, 7 for the states in"
        + " the history, 8 for the length of the text")
    @Broken(from = "case 0: return now.pageCount;", to = "case 0: return Math.min(now.pageCount, 5);")
    @Broken(from = "case 1: return now.ruleCount();", to = "case 1: return now.ruleCount() % 36;")
    @Broken(from = "case 2: return bitsOfAllPages();", to = "case 2: return codesOf(now.pageCount - 1).bitsOfAll();")
    @Broken(from = "case 3: return now.letterCount();", to = "case 3: return now.letterCount() + text.size();")
    @Broken(from = "case 4: return knowledge.words.size();", to = "case 4: return now.stepCount(WORD_MET);")
    @Broken(from = "case 5: return now.stepCount(OPENED);", to = "case 5: return now.stepCount(CLOSING_TOLD);")
    @Broken(from = "case 6: return now.stepCount(CLOSING_IMPLIED);", to = "case 6: return now.pageAt(0).steps.countOf(CLOSING_IMPLIED);")
    @Broken(from = "case 7: return historySize;", to = "case 7: return Math.min(historySize, 3);")
    @Broken(from = "case 8: return text.size();", to = "case 8: return Math.min(text.size(), 99);")
    static void counts() {
        int bits = 0;
        for (int rules = 0; rules < 36; rules++) {
            x.rule(rules / 6, rules % 6, true);
        }
        bits += pack("<a>g<b>h<b>g</a>");
        bits += pack("<f>gh<e></f>");
        bits += pack("<a></a>");
        for (int page = 3; page < 6; page++) {
            bits += x.pack();
        }
        write("<b>" + "g".repeat(97));
        int[] due = {6, 36, bits, 16 + 12 + 7 * 4, 3, 3 + 2 + 4, 2 + 1, 4, 100};
        for (int what = 0; what < due.length; what++) {
            due("count(" + what + ")", x.count(what), due[what]);
        }
        due("undo()", x.undo(), 3);
        due("undo()", x.undo(), 2);
        due("count(0)", x.count(0), 4);
        due("count(2)", x.count(2), bits - 12);
        due("count(3)", x.count(3), 16 + 12 + 14);
        due("count(5)", x.count(5), 7);
        due("count(7)", x.count(7), 2);
        due("count(8)", x.count(8), 100);
    }

    @Sentence(in = "Promise 19: count", says = "Returns the number; BAD_VALUE.")
    @Broken(from = "default: return BAD_VALUE;", to = "default: return what == 9 ? 0 : BAD_VALUE;")
    @Broken(from = "default: return BAD_VALUE;", to = "default: return what < 0 ? 0 : BAD_VALUE;")
    @Broken(from = "case 8: return text.size();", to = "")
    static void answersOfCount() {
        for (int what : new int[] {LEAST, -2, -1, 9, 10, 100, MOST}) {
            due("count(" + what + ")", x.count(what), BAD_VALUE);
        }
        for (int what = 0; what <= 8; what++) {
            due("count(" + what + ")", x.count(what), 0);
        }
    }
}
