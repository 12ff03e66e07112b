/** One test for each sentence that names a boundary case in the document's terms (and in what stands ahead of them). */
public final class TermsTest extends Checked {
    private static final String[] LETTERS = {"g", "h", "i", "j", "k", "l", "m", "n", "o", "p", "q", "r", "s", "t",
        "u", "v"};

    public static void main(String[] args) throws Exception {
        Sentences.runAll(TermsTest.class);
    }

    // ---- what it is

    @Sentence(in = "What it is", says = "An object is used for at most 512 calls after it has been made")
    @Broken(from = "public int clearText() {", to = "private int calls; public int clearText() { if (++calls > 255) { return 9; }")
    @Broken(from = "now.setEnds(name, ended, is);", to = "now.setEnds(name, ended, is); if (++calls > 511) { return 9; }"
        + " return now.ruleCount(); } private int calls; private int more() {")
    @Broken(from = "snapshot.become(now);", to = "snapshot.become(now); if (++calls > 255) { return 9; }"
        + " return now.pageCount; } private int calls; private int more() {")
    static void theLastOf512Calls() {
        for (int call = 0; call < 512; call += 2) {
            due("type", x.type('<'), 1);
            due("clearText()", x.clearText(), 1);
        }
        fresh();
        for (int call = 0; call < 512; call += 2) {
            due("rule", x.rule(5, 5, true), 1);
            due("rule", x.rule(5, 5, false), 0);
        }
        fresh();
        for (int call = 0; call < 512; call += 2) {
            due("keep()", x.keep(), 0);
            due("restore()", x.restore(), 0);
        }
        fresh();
        write("<a>g</a>");
        for (int call = 9; call < 511; call += 2) {
            due("pack()", x.pack(), 13);
            due("unpackLast()", x.unpackLast(), 0);
        }
    }

    // ---- PAGES

    @Sentence(in = "PAGES", says = "name = a letter a to f")
    @Broken(from = "letter >= 'a' && letter <= 'f'", to = "letter >= 'a' && letter <= 'g'")
    @Broken(from = "letter >= 'a' && letter <= 'f'", to = "letter >= 'a' && letter < 'f'")
    @Broken(from = "letter >= 'a' && letter <= 'f'", to = "letter > 'a' && letter <= 'f'")
    @Broken(from = "letter >= 'a' && letter <= 'f'", to = "letter >= '`' && letter <= 'f'")
    static void namesAreAToF() {
        for (char name = 'a'; name <= 'f'; name++) {
            noFault("<" + name + "></" + name + ">");
        }
        for (char name : new char[] {'`', 'g', 'A', 'F', 'w', '0', ' ', '<', '>', 0, 65535}) {
            fresh();
            fault("<" + name + "></a>", 1, 1, NONE);
            fault("<a><" + name + "></a>", 4, 1, NONE);
            fault("<a></" + name + ">", 5, 1, NONE);
        }
    }

    @Sentence(in = "PAGES", says = "box = \"<\" name { note } \">\" { box | word } closing")
    @Broken(from = "letter == '<', BEHIND_MARK, place); break;", to = "letter != '<', BEHIND_MARK, place); break;")
    @Broken(from = "letter == ' ' || letter == '>'", to = "letter == ' '")
    @Broken(from = "letter == ' ' || letter == '>'", to = "letter == ' ' || letter == '>' || letter == '/'")
    @Broken(from = "for (int note = 0; note < KEYS; note++) { int key", to = "for (int note = 0; note < KEYS - 1; note++) { int key")
    @Broken(from = "MOST_BOXES = 34", to = "MOST_BOXES = 31")
    @Broken(from = "MOST_WORDS = 34", to = "MOST_WORDS = 23")
    static void boxesOfNothingAndOfMuch() {
        noFault("<a></a>");
        noFault("<a w=0></a>");
        noFault("<a w=0 x=1 y=2 z=3></a>");
        noFault("<a>g</a>");
        noFault("<a>g<b></b><b></b>g<b></b></a>");
        fault("<a/></a>", 2, 1, NONE);
        fault("<></a>", 1, 1, NONE);
        fault("a></a>", 0, 1, NONE);
        due("four notes", pack("<a w=0 x=1 y=2 z=3></a>"), 4 + 1 + 9 + 1 + 3 + 3 + 5 + 1);
        // As many boxes, and as many words, as 100 characters have room for.
        fresh("bb", "ab");
        due("32 boxes", pack("<a>" + "<b>".repeat(31) + "</a>"), 64 * 2 + 1 + 3 + 30 + 32);
        due("count(5)", x.count(5), 32);
        due("24 words", pack("<a>g" + "<b>g".repeat(23) + "</a>"), 72 * 2 + 24 + 24 + (1 + 3 + 1 + 23));
        due("count(5)", x.count(5), 56);
    }

    @Sentence(in = "PAGES", says = "note = \" \" key \"=\" digit")
    @Broken(from = "letter >= '0' && letter <= '9'", to = "letter > '0' && letter <= '9'")
    @Broken(from = "letter >= '0' && letter <= '9'", to = "letter >= '0' && letter < '9'")
    @Broken(from = "letter >= '0' && letter <= '9'", to = "letter >= '/' && letter <= '9'")
    @Broken(from = "letter >= '0' && letter <= '9'", to = "letter >= '0' && letter <= ':'")
    @Broken(from = "letter >= '0' && letter <= '9', IN_OPENING, place", to = "letter >= '0' && letter <= '9', page.letters.size() > 6 ? IN_OPENING : DIGIT_DUE, place")
    @Broken(from = "expect(letter == '=', DIGIT_DUE, place)", to = "expect(letter == '=' || letter == ' ', DIGIT_DUE, place)")
    static void notes() {
        for (char digit = '0'; digit <= '9'; digit++) {
            noFault("<a w=" + digit + "></a>");
        }
        fault("<a w=/></a>", 5, 1, NONE);
        fault("<a w=:></a>", 5, 1, NONE);
        fault("<a w=></a>", 5, 1, NONE);
        fault("<a w=12></a>", 6, 1, NONE);
        fault("<a w=1x=2></a>", 6, 1, NONE);
        fault("<a w 1></a>", 4, 1, NONE);
        fault("<a w1></a>", 4, 1, NONE);
        fault("<a  w=1></a>", 3, 1, NONE);
        fault("<a ></a>", 3, 1, NONE);
        fault("<a w=1 ></a>", 7, 1, NONE);
        fault("<aw=1></a>", 2, 1, NONE);
    }

    @Sentence(in = "PAGES", says = "key = a letter w to z, each at most once in a box")
    @Broken(from = "int key = letter - 'w'; if (key < 0 || key >= KEYS)", to = "int key = letter - 'w'; if (key >= KEYS)")
    @Broken(from = "int key = letter - 'w'; if (key < 0 || key >= KEYS)", to = "int key = letter - 'w'; if (key < 0 || key > KEYS)")
    @Broken(from = "int key = letter - 'w'; if (key < 0 || key >= KEYS)", to = "int key = letter - 'w'; if (key < 0 || key >= KEYS - 1)")
    @Broken(from = "int key = letter - 'w'; if (key < 0 || key >= KEYS)", to = "int key = letter - 'w'; if (key <= 0 || key >= KEYS)")
    @Broken(from = "} else if (keyPlaces.at(key) != ABSENT) {", to = "} else if (keyPlaces.at(key) > 1000) {")
    @Broken(from = "open.add(box); keyPlaces.fill(ABSENT);", to = "open.add(box); if (box == 0) { keyPlaces.fill(ABSENT); }")
    static void keysAreWToZOnce() {
        for (char key = 'w'; key <= 'z'; key++) {
            noFault("<a " + key + "=0></a>");
            fault("<a " + key + "=0 " + key + "=0></a>", 7, 2, 3);
        }
        fault("<a v=0></a>", 3, 1, NONE);
        fault("<a {=0></a>", 3, 1, NONE);
        fault("<a W=0></a>", 3, 1, NONE);
        fault("<a a=0></a>", 3, 1, NONE);
        // Another box may have the key, the one inside and the one behind it.
        noFault("<a w=0><a w=0></a><b w=0></b></a>");
    }

    @Sentence(in = "PAGES", says = "word = one to eight letters g to v")
    @Broken(from = "letter < 'g' || letter > 'v'", to = "letter <= 'g' || letter > 'v'")
    @Broken(from = "letter < 'g' || letter > 'v'", to = "letter < 'f' || letter > 'v'")
    @Broken(from = "letter < 'g' || letter > 'v'", to = "letter < 'g' || letter >= 'v'")
    @Broken(from = "letter < 'g' || letter > 'v'", to = "letter < 'g' || letter > 'w'")
    @Broken(from = "MOST_LETTERS = 8", to = "MOST_LETTERS = 7")
    @Broken(from = "MOST_LETTERS = 8", to = "MOST_LETTERS = 9")
    static void wordsOfOneToEightLetters() {
        for (int letters = 1; letters <= 8; letters++) {
            noFault("<a>" + "ghqrstuv".substring(0, letters) + "</a>");
        }
        fault("<a>ghqrstuvg</a>", 11, 5, NONE);
        fresh();
        for (String letter : LETTERS) {
            noFault("<a>" + letter + "</a>");
        }
        fault("<a>f</a>", 3, 1, NONE);
        fault("<a>w</a>", 3, 1, NONE);
        fault("<a>gf</a>", 4, 1, NONE);
        fault("<a>vw</a>", 4, 1, NONE);
        fault("<a>G</a>", 3, 1, NONE);
    }

    @Sentence(in = "PAGES", says = "and no other word right behind it (letters g to v one behind the other are one word)")
    @Broken(from = "} else if (mode == IN_BOX) {", to = "} else if (mode == IN_BOX || page.wordLengths.last() == 2) {")
    @Broken(from = "} else if (mode == IN_BOX) {", to = "} else if (mode == IN_BOX && page.wordLengths.size() == 0) {")
    static void lettersOneBehindTheOtherAreOneWord() {
        pack("<a>hihi<b></b>hi<b></b>hi</a>");
        row(0, 0, 0, 1, 0, 2, 1, 0, 2, 1, 2);
        row(0, 3, 0, 4, 1, 2, 1, 2, 1, 2, 1, 2, 0);
    }

    @Sentence(in = "PAGES", says = "closing = \"</\" name \">\" with the name of the box, or nothing, if it is implied")
    @Broken(from = "if (latestName() == name) { mode", to = "if (latestName() >= name) { mode")
    @Broken(from = "if (latestName() == name) { mode", to = "if (latestName() <= name) { mode")
    @Broken(from = "if (letter != '>') {", to = "if (letter != '>' && letter != ' ') {")
    @Broken(from = "if (faultKind == NO_FAULT && mode != OVER)", to = "if (faultKind == NO_FAULT && mode == AT_START)")
    static void closingsHaveTheNameOfTheBox() {
        noFault("<b><c></c></b>");
        fault("<b></a>", 5, 3, 0);
        fault("<b></c>", 5, 3, 0);
        fault("<b></b ", 6, 1, NONE);
        fault("<b></bb>", 6, 1, NONE);
        // Nothing, and not implied.
        fault("<b><c></b>", 8, 3, 3);
        fault("<b><c></c>", 10, 0, NONE);
        fresh("bc");
        noFault("<b><c></b>");
    }

    @Sentence(in = "PAGES", says = "for names x and y, also the same one (at first none)")
    @Broken(from = "State() { rules.fill(0);", to = "State() { rules.fill(0); rules.put(35, 1);")
    @Broken(from = "State() { rules.fill(0);", to = "State() { rules.fill(1);")
    @Broken(from = "if (!isName(name) || !isName(ended)) {", to = "if (!isName(name) || !isName(ended) || name == ended) {")
    static void rulesAlsoOfOneNameAndAtFirstNone() {
        for (int name = 0; name < 6; name++) {
            for (int ended = 0; ended < 6; ended++) {
                due("no rule yet", x.rule(name, ended, false), NONE);
            }
        }
        due("count(1)", x.count(1), 0);
        for (char name = 'a'; name <= 'f'; name++) {
            fresh();
            String page = "<a><" + name + "><" + name + "></" + name + "></a>";
            fault(page, name == 'a' ? 17 : 15, name == 'a' ? 0 : 3, name == 'a' ? NONE : 3);
            fresh("" + name + name);
            noFault(page);
        }
    }

    @Sentence(in = "PAGES", says = "if the latest open box has the name x, and \"<y\" comes, the closing of this box is implied"
        + " there, ahead of the new box")
    @Broken(from = "rules.ends(name, latestName()); left--) { close(", to = "rules.ends(latestName(), name); left--) { close(")
    @Broken(from = "left > 1 && rules.ends(name, latestName()); left--)", to = "left > 6 && rules.ends(name, latestName()); left--)")
    static void openingsImplyClosings() {
        fresh("bc");
        pack("<a><c>g<b>h</b></a>");
        row(0, 0, 0, 0, 1, 3, 0, 1, 2, 2);
        // The other way round there is no rule, and a box that is closed is not ended once more.
        pack("<a><b><c></c></b></a>");
        row(1, 0, 0, 0, 0, 2, 2, 2);
        pack("<a><c></c><b></b></a>");
        row(2, 0, 0, 0, 2, 0, 2, 2);
        fault("<a><c><b></b></c></a>", 15, 3, 0);
    }

    @Sentence(in = "PAGES", says = "this is done again with the box that is the latest open one then, as long as there is a rule"
        + " for it")
    @Broken(from = "for (int left = open.size(); left > 1 && rules.ends(name, latestName());",
        to = "for (int left = Math.min(open.size(), 2); left > 1 && rules.ends(name, latestName());")
    @Broken(from = "for (int left = open.size(); left > 1 && rules.ends(name, latestName());",
        to = "for (int left = Math.min(open.size(), 5); left > 1 && rules.ends(name, latestName());")
    @Broken(from = "left > 1 && rules.ends(name, latestName());", to = "left > 1 && (left == 3 || rules.ends(name, latestName()));")
    static void openingsImplyClosingsAgain() {
        fresh("bc", "bd", "be", "bf", "bb");
        pack("<a><f><e><d><c><b><b></b></a>");
        // <b> ends c, d, e, f; the next one ends b.
        row(0, 0, 0, 0, 0, 0, 0, 3, 3, 3, 3, 0, 3, 0, 2, 2);
        fresh("fa", "fb", "fc", "fd", "fe");
        pack("<f><e><d><c><b><a><f></f></f>");
        row(0, 0, 0, 0, 0, 0, 0, 0, 3, 3, 3, 3, 3, 0, 2, 2);
        fresh("bc", "be");
        // d is not ended by b, and so e around it is not.
        pack("<a><e><d><c><b></b></d></e></a>");
        row(0, 0, 0, 0, 0, 0, 3, 0, 2, 2, 2, 2);
    }

    @Sentence(in = "PAGES", says = "If a closing \"</n>\" comes, and the latest open box has another name x, its closing is"
        + " implied there if there is a rule \"n ends x\"; this is done again likewise.")
    @Broken(from = "return latest != name && rules.ends(name, latest);", to = "return rules.ends(name, latest);")
    @Broken(from = "return latest != name && rules.ends(name, latest);", to = "return latest != name && rules.ends(latest, name);")
    @Broken(from = "for (int left = open.size(); left > 1 && isEnded", to = "for (int left = Math.min(open.size(), 2); left > 1 && isEnded")
    @Broken(from = "for (int left = open.size(); left > 1 && isEnded", to = "for (int left = Math.min(open.size(), 5); left > 1 && isEnded")
    static void closingsImplyClosings() {
        fresh("ab", "ac", "ad", "ae", "af");
        pack("<a><b>g</a>");
        row(0, 0, 0, 0, 1, 3, 2);
        pack("<a><b><c><d><e><f></a>");
        row(1, 0, 0, 0, 0, 0, 0, 0, 3, 3, 3, 3, 3, 2);
        fresh("dd", "ad");
        // d has the name itself: it is told, though there is a rule "d ends d".
        pack("<a><d></d><d></a>");
        row(0, 0, 0, 0, 2, 0, 3, 2);
        fault("<b><d></d></d>", 12, 3, 0);
        fresh("ca");
        fault("<a><c></a>", 8, 3, 3);
    }

    @Sentence(in = "PAGES", says = "The closing of the outermost box is never implied.")
    @Broken(from = "left > 1 && rules.ends(name, latestName())", to = "left > 0 && rules.ends(name, latestName())")
    @Broken(from = "left > 1 && isEnded", to = "left > 0 && isEnded")
    static void theOutermostBoxIsNeverImplied() {
        fresh("aa", "ba");
        pack("<a><a></a></a>");
        row(0, 0, 0, 0, 2, 2);
        pack("<a><b></b></a>");
        row(1, 0, 0, 0, 2, 2);
        fault("<a></b>", 5, 3, 0);
        // Not by what comes behind implied closings either.
        pack("<a><a><a><a></a></a>");
        row(2, 0, 0, 0, 3, 0, 3, 0, 2, 2);
        fault("<a><a></b>", 8, 3, 0);
        fresh("ab", "cb");
        fault("<b></a>", 5, 3, 0);
        fault("<b><b></a>", 8, 3, 0);
        fault("<b></c>", 5, 3, 0);
    }

    @Sentence(in = "PAGES", says = "A page is over when its outermost box is closed.")
    @Broken(from = "mode = open.size() > 0 ? IN_BOX : OVER;", to = "mode = open.size() > 1 ? IN_BOX : OVER;")
    @Broken(from = "mode = open.size() > 0 ? IN_BOX : OVER;", to = "mode = IN_BOX;")
    static void overWithTheOutermostBox() {
        fault("<a><a></a>", 10, 0, NONE);
        fault("<a><b></b>", 10, 0, NONE);
        noFault("<a><a></a></a>");
        noFault("<a><b></b>g<b></b></a>");
        fault("<a></a>g", 7, 6, NONE);
    }

    @Sentence(in = "PAGES", says = "At most 6 boxes are open at a time (behind the closings that are implied).")
    @Broken(from = "MOST_OPEN = 6", to = "MOST_OPEN = 5")
    @Broken(from = "MOST_OPEN = 6", to = "MOST_OPEN = 7")
    @Broken(from = "private void openBox(int place, int name, State rules) {",
        to = "private void openBox(int place, int name, State rules) { if (open.size() >= MOST_OPEN) { tell(place, SEVENTH_BOX, NONE); return; }")
    static void sixOpenBoxes() {
        noFault("<a><b><c><d><e><f></f></e></d></c></b></a>");
        // More than six in all, but never at a time.
        noFault("<a><b><c><d><e><f></f><f></f></e><e></e></d></c></b><b></b></a>");
        fault("<a><b><c><d><e><f><a></a>", 18, 4, NONE);
        fault("<f><f><f><f><f><f></f><f></f></f><f><f><f>", 39, 4, NONE);
        fresh("af", "ae");
        noFault("<a><b><c><d><e><f><a></a></d></c></b></a>");
        noFault("<a><b><c><d><f><f></f><a><b></b></a></d></c></b></a>");
        fault("<a><b><c><d><e><f><b></b>", 18, 4, NONE);
    }

    // ---- FAULTS

    @Sentence(in = "FAULTS", says = "A text that is no page has a fault: the place of the first character that is not allowed"
        + " where it stands")
    @Broken(from = "place < text.size() && faultKind == NO_FAULT; place++", to = "place < text.size(); place++")
    @Broken(from = "private void tell(int place, int kind, int cause) { faultPlace = place;",
        to = "private void tell(int place, int kind, int cause) { faultPlace = Math.max(place, 1);")
    static void theFirstOfTwoFaults() {
        fault("x<a>", 0, 1, NONE);
        fault("<a>1<g>2", 3, 1, NONE);
        fault("<a w=1 w=1 w=2><c></b>", 7, 2, 3);
        fault("<a></b>x", 5, 3, 0);
        fault("<a></a>xy", 7, 6, NONE);
        fault("<a>" + "g".repeat(10), 11, 5, NONE);
        fault("<a></a>" + "</a>".repeat(23), 7, 6, NONE);
        fault("<a>" + "<a></a>".repeat(13) + "gggg!!", 98, 1, NONE);
    }

    @Sentence(in = "FAULTS", says = "or the length of the text if it ends too early (the empty text does)")
    @Broken(from = "tell(text.size(), ENDS_EARLY, NONE)", to = "tell(text.size() - 1, ENDS_EARLY, NONE)")
    @Broken(from = "mode != OVER) {", to = "mode != OVER && mode != AT_START) {")
    @Broken(from = "mode != OVER) {", to = "mode != OVER && mode != CLOSING_END_DUE) {")
    @Broken(from = "mode != OVER) {", to = "mode != OVER && mode != BEHIND_MARK) {")
    static void theLengthOfWhatEndsEarly() {
        fault("", 0, 0, NONE);
        String whole = "<a w=0 x=1><b>gh<c></c></b></a>";
        for (int length = 0; length < whole.length(); length++) {
            fresh();
            fault(whole.substring(0, length), length, 0, NONE);
        }
        noFault(whole);
        fresh();
        fault("<a>" + "<b></b>".repeat(13) + "gggggg", 100, 0, NONE);
    }

    @Sentence(in = "FAULTS", says = "1 a character that cannot stand there")
    @Broken(from = "WRONG_CHARACTER = 1", to = "WRONG_CHARACTER = 0")
    @Broken(from = "letter == '/' && open.size() > 0", to = "letter == '/'")
    @Broken(from = "if (letter != '>') { tell(place,", to = "if (letter != '>') { tell(place - 1,")
    static void charactersThatCannotStandThere() {
        char[] odd = {0, 9, 10, 127, 128, 255, 256, (char) ('<' + 256), 65535};
        for (char c : odd) {
            String[] ahead = {"", "<", "<a", "<a ", "<a w", "<a w=", "<a w=1", "<a>", "<a>g", "<a></", "<a></a"};
            for (String text : ahead) {
                fresh();
                fault(text + c, text.length(), 1, NONE);
                fresh();
                fault(text + c + "g></a>", text.length(), 1, NONE);
            }
        }
        fresh();
        fault("</a>", 1, 1, NONE);
        fault("<<a></a>", 1, 1, NONE);
        fault("<a><></a>", 4, 1, NONE);
        fault("<a>></a>", 3, 1, NONE);
        fault("<a>/a></a>", 3, 1, NONE);
        fault("<a>5</a>", 3, 1, NONE);
        fault("<a>g </a>", 4, 1, NONE);
        fault("<a><//a>", 5, 1, NONE);
    }

    @Sentence(in = "FAULTS", says = "2 a key that the box has already (the place is that of the key)")
    @Broken(from = "tell(place, SECOND_KEY,", to = "tell(place - 1, SECOND_KEY,")
    @Broken(from = "tell(place, SECOND_KEY,", to = "tell(place + 1, SECOND_KEY,")
    @Broken(from = "SECOND_KEY = 2", to = "SECOND_KEY = 1")
    static void aKeyThatTheBoxHasAlready() {
        fault("<a w=1 w", 7, 2, 3);
        fault("<a w=1 w=", 7, 2, 3);
        fault("<a w=1 w=1></a>", 7, 2, 3);
        fault("<a w=1 x=1 y=1 z=1 z=1></a>", 19, 2, 15);
        // Told at the key, though no "=" comes.
        fault("<a w=1 w></a>", 7, 2, 3);
        fault("<a w=1 ", 7, 0, NONE);
    }

    @Sentence(in = "FAULTS", says = "3 a closing with a name that does not close the latest open box, also not by implied closings"
        + " (the place is that of the name, also if the text ends behind it)")
    @Broken(from = "tell(place, WRONG_CLOSING,", to = "tell(place - 2, WRONG_CLOSING,")
    @Broken(from = "tell(place, WRONG_CLOSING,", to = "tell(place + 1, WRONG_CLOSING,")
    @Broken(from = "WRONG_CLOSING = 3", to = "WRONG_CLOSING = 1")
    @Broken(from = "if (faultKind == NO_FAULT && mode != OVER) {",
        to = "if (faultKind == WRONG_CLOSING && faultPlace == text.size() - 1 || faultKind == NO_FAULT && mode != OVER) {")
    static void aClosingThatDoesNotClose() {
        fault("<a></b>", 5, 3, 0);
        fault("<a></b", 5, 3, 0);
        fault("<a></b!", 5, 3, 0);
        fault("<a></", 5, 0, NONE);
        fault("<a><b></a></b>", 8, 3, 3);
        fresh("ca");
        fault("<b><a></c", 8, 3, 0);
        fault("<a></c", 5, 3, 0);
        fresh("cb");
        fault("<a><b></c>", 8, 3, 0);
    }

    @Sentence(in = "FAULTS", says = "4 a seventh open box (the place is that of its \"<\")")
    @Broken(from = "tell(place, SEVENTH_BOX,", to = "tell(place + 1, SEVENTH_BOX,")
    @Broken(from = "SEVENTH_BOX = 4", to = "SEVENTH_BOX = 1")
    static void aSeventhOpenBox() {
        String six = "<a><a><a><a><a><a>";
        fault(six + "<a></a>", 18, 4, NONE);
        fault(six + "<a", 18, 4, NONE);
        fault(six + "<a!", 18, 4, NONE);
        fault(six + "gh<a>", 20, 4, NONE);
        // What is no box yet has its own fault.
        fault(six + "<", 19, 0, NONE);
        fault(six + "<g", 19, 1, NONE);
        fault(six + "</b>", 20, 3, 15);
    }

    @Sentence(in = "FAULTS", says = "5 a ninth letter of a word")
    @Broken(from = "NINTH_LETTER = 5", to = "NINTH_LETTER = 1")
    @Broken(from = "page.wordLengths.last() < MOST_LETTERS", to = "page.wordLengths.last() <= MOST_LETTERS")
    @Broken(from = "tell(place, NINTH_LETTER,", to = "tell(place - 8, NINTH_LETTER,")
    static void aNinthLetter() {
        fault("<a>gggggggg", 11, 0, NONE);
        fault("<a>ggggggggg", 11, 5, NONE);
        fault("<a>gggggggggggg</a>", 11, 5, NONE);
        fault("<a>gggggggg<b>hhhhhhhh</b>vvvvvvvvv", 34, 5, NONE);
        // Another ninth character cannot stand there.
        fault("<a>ggggggggf", 11, 1, NONE);
    }

    @Sentence(in = "FAULTS", says = "6 something behind the outermost box")
    @Broken(from = "BEHIND_PAGE = 6", to = "BEHIND_PAGE = 1")
    @Broken(from = "tell(place, BEHIND_PAGE,", to = "tell(place + 1, BEHIND_PAGE,")
    static void somethingBehindTheOutermostBox() {
        for (char c : new char[] {'g', '<', '>', ' ', 'a', '1', '!', 0, 65535}) {
            fault("<a></a>" + c, 7, 6, NONE);
        }
        fault("<a></a><a></a>", 7, 6, NONE);
        fault("<a></a></a>", 7, 6, NONE);
        fault("<a><a></a></a>g", 14, 6, NONE);
        noFault("<a></a>");
    }

    @Sentence(in = "FAULTS", says = "What caused it is told for the kinds 2 and 3: the place of the first key that is the same")
    @Broken(from = "tell(place, SECOND_KEY, keyPlaces.at(key))", to = "tell(place, SECOND_KEY, keyPlaces.at(0))")
    @Broken(from = "tell(place, SECOND_KEY, keyPlaces.at(key))", to = "tell(place, SECOND_KEY, place - 4)")
    @Broken(from = "tell(place, SECOND_KEY, keyPlaces.at(key))", to = "tell(place, SECOND_KEY, NONE)")
    @Broken(from = "tell(place, SECOND_KEY, keyPlaces.at(key))", to = "tell(place, SECOND_KEY, keyPlaces.at(key) - 1)")
    static void theFirstSameKeyCausedIt() {
        fault("<a z=1 y=2 x=3 w=4 z=5></a>", 19, 2, 3);
        fault("<a z=1 y=2 x=3 w=4 y=5></a>", 19, 2, 7);
        fault("<a z=1 y=2 x=3 w=4 x=5></a>", 19, 2, 11);
        fault("<a z=1 y=2 x=3 w=4 w=5></a>", 19, 2, 15);
        // The same key of a box around it is not the one.
        fault("<a w=1><b x=1 w=1 w=1></b></a>", 18, 2, 14);
        fault("<a w=1><b w=1></b><c y=1 w=1 y=1></c></a>", 29, 2, 21);
    }

    @Sentence(in = "FAULTS", says = "or the place of the \"<\" of the box that is the latest open one when no more closing is implied"
        + " there.")
    @Broken(from = "tell(place, WRONG_CLOSING, page.boxPlaces.at(open.last()))", to = "tell(place, WRONG_CLOSING, page.boxPlaces.at(0))")
    @Broken(from = "tell(place, WRONG_CLOSING, page.boxPlaces.at(open.last()))", to = "tell(place, WRONG_CLOSING, page.boxPlaces.last())")
    @Broken(from = "tell(place, WRONG_CLOSING, page.boxPlaces.at(open.last()))", to = "tell(place, WRONG_CLOSING, page.boxPlaces.at(open.last()) + 1)")
    static void theBoxLeftOpenCausedIt() {
        fault("<a><b></c>", 8, 3, 3);
        fault("<a><b></b></c>", 12, 3, 0);
        fault("<a><b></b><b></b><b></a>", 22, 3, 17);
        fresh("fb", "fc");
        // b and c are implied ahead of it: the box that is left is d, and then the outermost one.
        fault("<a><d><c><b></f>", 14, 3, 3);
        fault("<a><b><c></f>", 11, 3, 0);
        fault("<b><b><c></f>", 11, 3, 0);
        fault("<a><b><d><c></f>", 14, 3, 6);
    }

    // ---- PACKING

    @Sentence(in = "PACKING", says = "At most 6 pages are packed, numbered from 0 in the order in which they were packed.")
    @Broken(from = "MOST_PAGES = 6", to = "MOST_PAGES = 5")
    @Broken(from = "MOST_PAGES = 6", to = "MOST_PAGES = 7")
    @Broken(from = "return page >= 0 && page < pageCount;", to = "return page >= 0 && page <= pageCount;")
    static void sixPages() {
        for (char name = 'a'; name <= 'f'; name++) {
            due("pack()", pack("<" + name + "></" + name + ">") > 0 ? 1 : 0, 1);
            due("count(0)", x.count(0), name - 'a' + 1);
        }
        due("pack() of a seventh page", x.pack(), FULL);
        due("count(0)", x.count(0), 6);
        for (int page = 0; page < 6; page++) {
            due("charAt", x.charAt(page, 1), 'a' + page);
        }
        due("charAt(6, 1)", x.charAt(6, 1), UNKNOWN);
        due("charAt(-1, 1)", x.charAt(-1, 1), UNKNOWN);
        due("unpackLast()", x.unpackLast(), 5);
        due("there is room again", x.pack() > 0 ? 1 : 0, 1);
        due("and no more", x.pack(), FULL);
    }

    @Sentence(in = "PACKING", says = "What is known at first: nothing; then what all pages that were packed so far have made known.")
    @Broken(from = "knowledge.take(reader.page, codes); return", to = "knowledge.forget(); knowledge.take(reader.page, codes); return")
    @Broken(from = "Known() { for", to = "Known() { words.meet(1); for")
    @Broken(from = "sets.fill(0); values.fill(ABSENT); } void forget", to = "sets.fill(15); values.fill(ABSENT); } void forget")
    @Broken(from = "sets.fill(0); values.fill(ABSENT); } void forget", to = "sets.fill(0); values.fill(5); } void forget")
    static void whatIsKnownAtFirstAndThen() {
        due("count(4)", x.count(4), 0);
        for (int name = 0; name <= 6; name++) {
            due("known", x.known(name, 0), NONE);
        }
        for (int name = 0; name < 6; name++) {
            for (int key = 0; key < 4; key++) {
                due("latest", x.latest(name, key), NONE);
            }
        }
        pack("<b w=5>g<c></c></b>");
        row(0, 1, 1, 2);
        row(0, 2, 2, 5, 0);
        row(0, 3, 0, 1, 0);
        pack("<d x=5>h</d>");
        pack("<b w=6>g<c></c>h</b>");
        // Of the first page and of the second.
        row(2, 1, 1, 0);
        row(2, 2, 0, 1, 0);
        row(2, 3, 1, 1);
    }

    @Sentence(in = "PACKING", says = "0 a box is opened, 1 a word, 2 a closing that is told, 3 a closing that is implied.")
    @Broken(from = "OPENED = 0", to = "OPENED = 4")
    @Broken(from = "WORD_MET = 1", to = "WORD_MET = 4")
    @Broken(from = "CLOSING_TOLD = 2", to = "CLOSING_TOLD = 4")
    @Broken(from = "CLOSING_IMPLIED = 3", to = "CLOSING_IMPLIED = 4")
    static void steps() {
        fresh("bb");
        pack("<a w=1>g<b>h<b>i</b></a>");
        row(0, 0, 0, 1, 0, 1, 3, 0, 1, 2, 2);
        pack("<a></a>");
        row(1, 0, 0, 2);
    }

    @Sentence(in = "PACKING", says = "names are known by the name of the box around them (or none, for the outermost box)")
    @Broken(from = "around == ABSENT ? NAMES : page.boxNames.at(around)", to = "around == ABSENT ? 0 : page.boxNames.at(around)")
    @Broken(from = "around == ABSENT ? NAMES : page.boxNames.at(around)", to = "NAMES")
    @Broken(from = "page.addBox(place, name, open.last());", to = "page.addBox(place, name, page.boxNames.size() - 1);")
    static void namesByTheNameAround() {
        pack("<a><b></b><c></c><a><f></f></a></a>");
        row(0, 1, 0, 1, 3, 2, 8);
        due("known(6, 0)", x.known(6, 0), 0);
        due("known(6, 1)", x.known(6, 1), NONE);
        due("known(0, 0)", x.known(0, 0), 5);
        due("known(0, 3)", x.known(0, 3), 1);
        due("known(1, 0)", x.known(1, 0), NONE);
        pack("<c><f></f></c>");
        // c is not known where there is none around, f not in c.
        row(1, 1, 3, 5);
        fresh("cb");
        // c stands in a behind the closing that it implies, not in b.
        pack("<a><b><c></c></a>");
        row(0, 1, 0, 1, 3);
    }

    @Sentence(in = "PACKING", says = "there is a list of the names that were met there, the one that was met last at the front.")
    @Broken(from = "if (place == ABSENT) { place = size; } if", to = "if (place == ABSENT) { place = size; } else { return; } if")
    @Broken(from = "items[0] = item;", to = "items[0] = items[0]; items[place] = item;")
    static void theNameMetLastAtTheFront() {
        pack("<a><a></a><b></b><c></c><b></b></a>");
        due("known(0, 0)", x.known(0, 0), 1);
        due("known(0, 1)", x.known(0, 1), 2);
        due("known(0, 2)", x.known(0, 2), 0);
        due("known(0, 3)", x.known(0, 3), NONE);
        pack("<a><a></a><a></a></a>");
        due("known(0, 0)", x.known(0, 0), 0);
        due("known(0, 1)", x.known(0, 1), 1);
        due("known(0, 2)", x.known(0, 2), 2);
        due("known(0, 3)", x.known(0, 3), NONE);
    }

    @Sentence(in = "PACKING", says = "The code is the place of the name in the list (from 0), and the name comes to the front")
    @Broken(from = "list.size() + name : place);", to = "list.size() + name : place + 1);")
    @Broken(from = "list.meet(name);", to = "if (place == ABSENT) { list.meet(name); }")
    static void aNameThatIsInTheList() {
        pack("<f><a></a><b></b><c></c><d></d><e></e><f></f></f>");
        // Known are f, e, d, c, b, a, in this order.
        pack("<f><f></f><a></a><a></a><f></f><e></e></f>");
        row(1, 1, 0, 0, 5, 0, 1, 2);
    }

    @Sentence(in = "PACKING", says = "or, if it is not in the list, the length of the list plus the number of the name (0 for a), and"
        + " it is put to the front.")
    @Broken(from = "list.size() + name : place);", to = "name : place);")
    @Broken(from = "list.size() + name : place);", to = "list.size() : place);")
    @Broken(from = "list.size() + name : place);", to = "list.size() + name + 1 : place);")
    @Broken(from = "list.meet(name);", to = "if (place != ABSENT) { list.meet(name); }")
    @Broken(from = "new FrontList(NAMES);", to = "new FrontList(NAMES - 1);")
    static void aNameThatIsNotInTheList() {
        pack("<a><a></a><b></b><c></c><d></d><e></e><f></f></a>");
        // From 0, a name alone in an empty list, to 10, the last one ahead of a full list.
        row(0, 1, 0, 0, 2, 4, 6, 8, 10);
        for (int rank = 0; rank < 6; rank++) {
            due("known", x.known(0, rank), 5 - rank);
        }
        due("known(0, 6)", x.known(0, 6), NONE);
        pack("<f><f></f><e></e><d></d><c></c><b></b><a></a></f>");
        row(1, 1, 6, 5, 5, 5, 5, 5, 5);
    }

    @Sentence(in = "PACKING", says = "a code for the set of its keys (bits: 1 for w, 2 for x, 4 for y, 8 for z)")
    @Broken(from = "set |= 1 << key;", to = "set |= 8 >> key;")
    static void setsOfKeys() {
        for (int set = 0; set < 16; set++) {
            fresh();
            pack("<a" + notesOf(set) + "></a>");
            due("the code of set " + set, x.code(0, 2, 0), set == 0 ? 0 : set + 1);
        }
    }

    @Sentence(in = "PACKING", says = "0 if the latest box of this name had the same set (the empty set, if there was none), otherwise"
        + " the set plus 1")
    @Broken(from = "set == sets.at(name) ? 0 : set + 1", to = "set == sets.at(name) ? 0 : set")
    @Broken(from = "set == sets.at(name) ? 0 : set + 1", to = "set == sets.at(0) ? 0 : set + 1")
    @Broken(from = "set == sets.at(name) ? 0 : set + 1", to = "set + 1")
    @Broken(from = "set == sets.at(name) ? 0 : set + 1", to = "set == sets.at(name) && set > 0 ? 0 : set + 1")
    @Broken(from = "sets.put(name, set);", to = "if (set > 0) { sets.put(name, set); }")
    @Broken(from = "words.clear(); sets.fill(0);", to = "words.clear();")
    static void theSetOfTheLatestBox() {
        pack("<a></a>");
        row(0, 2, 0);
        pack("<a w=0><b></b><a w=0></a><a></a><a></a></a>");
        row(1, 2, 2, 0, 0, 0, 0, 1, 0);
        pack("<c z=0><a z=0></a><c z=0></c></c>");
        row(2, 2, 9, 0, 9, 0, 0, 0);
        // What a page that is gone made known is not the latest any more.
        due("unpackLast()", x.unpackLast(), 2);
        pack("<c z=0></c>");
        row(2, 2, 9, 0);
        due("alone", x.wouldTake(true), 4 + 3 + 7 + 1);
        for (int set = 0; set < 16; set++) {
            fresh();
            String box = "<a" + notesOf(set) + "></a>";
            pack("<b>" + box + box + "<a" + notesOf(15 - set) + "></a></b>");
            int codes = Integer.bitCount(set) + (Integer.bitCount(set) > 1 ? 2 : 1);
            due("set " + set, x.code(0, 2, 1), set == 0 ? 0 : set + 1);
            due("set " + set + " again", x.code(0, 2, 1 + codes), 0);
            due("set " + (15 - set), x.code(0, 2, 1 + codes + codes), 16 - set);
        }
    }

    private static String notesOf(int set) {
        StringBuilder notes = new StringBuilder();
        for (int key = 0; key < 4; key++) {
            if ((set >> key & 1) == 1) {
                notes.append(' ').append((char) ('w' + key)).append("=0");
            }
        }
        return notes.toString();
    }

    @Sentence(in = "PACKING", says = "for each of its keys, from w to z, the difference of its value to the latest one of the same key"
        + " in a box of the same name, however far back (0, if there was none)")
    @Broken(from = "for (int key = 0; key < KEYS; key++) { if ((set", to = "for (int key = KEYS - 1; key >= 0; key--) { if ((set")
    @Broken(from = "Math.max(valueOf(name, key), 0)", to = "valueOf(name, key)")
    @Broken(from = "Math.max(valueOf(name, key), 0)", to = "Math.max(valueOf(0, key), 0)")
    @Broken(from = "Math.max(valueOf(name, key), 0)", to = "Math.max(valueOf(name, 0), 0)")
    @Broken(from = "Page page, Codes codes) { codes.clear();", to = "Page page, Codes codes) { codes.clear(); values.fill(ABSENT);")
    @Broken(from = "sets.put(name, set);", to = "sets.put(name, set); if (set == 0) { values.fill(ABSENT); }")
    static void theLatestValueHoweverFarBack() {
        pack("<a z=4 y=3 x=2 w=1></a>");
        row(0, 2, 16, 1, 2, 3, 4, 23);
        pack("<b w=9><a></a></b>");
        row(1, 2, 2, 9, 1);
        pack("<b></b>");
        pack("<b x=7></b>");
        row(3, 2, 3, 7);
        // Three pages, and boxes of that name without the key, lie between.
        pack("<a y=5><b w=9></b></a>");
        row(4, 2, 5, 2, 2, 0);
        pack("<a z=4><a y=6></a></a>");
        row(5, 2, 9, 0, 5, 1);
    }

    @Sentence(in = "PACKING", says = "the value less the latter, plus 10 if this is below 0.")
    @Broken(from = "difference < 0 ?", to = "difference <= 0 ?")
    @Broken(from = "difference < 0 ?", to = "difference < -1 ?")
    @Broken(from = "difference + 10", to = "difference + 9")
    @Broken(from = "int difference = value - Math.max(valueOf(name, key), 0)", to = "int difference = Math.max(valueOf(name, key), 0) - value")
    static void differencesBelow0() {
        for (int latter = 0; latter <= 9; latter++) {
            for (int value = 0; value <= 9; value++) {
                fresh();
                pack("<a x=" + latter + "><a x=" + value + "></a></a>");
                row(0, 2, 3, latter, 0, value < latter ? value - latter + 10 : value - latter);
            }
        }
    }

    @Sentence(in = "PACKING", says = "The order of keys in the box is told by a further code behind these, if it has at least two keys")
    @Broken(from = "if (keys >= 2) {", to = "if (keys >= 1) {")
    @Broken(from = "if (keys >= 2) {", to = "if (keys >= 3) {")
    @Broken(from = "if (keys >= 2) {", to = "if (keys >= 2 && page.orderOfKeys(box, keys) > 0) {")
    static void noOrderOfOneKey() {
        pack("<a><a w=1></a></a>");
        row(0, 2, 0, 2, 1);
        pack("<b w=1 x=1></b>");
        row(1, 2, 4, 1, 1, 0);
        pack("<b x=1 w=1></b>");
        row(2, 2, 0, 0, 0, 1);
        pack("<c w=1 x=1 y=1></c>");
        row(3, 2, 8, 1, 1, 1, 0);
        pack("<d w=1 x=1 y=1 z=1></d>");
        row(4, 2, 16, 1, 1, 1, 1, 0);
    }

    @Sentence(in = "PACKING", says = "the number of their order among all orders of these keys, as these would stand in an alphabet (0"
        + " if they come from w to z).")
    @Broken(from = "order * (keys - note) + smallerBehind", to = "order * (keys - note + 1) + smallerBehind")
    @Broken(from = "order * (keys - note) + smallerBehind", to = "order * (4 - note) + smallerBehind")
    @Broken(from = "keyOfNote(box, behind) < key", to = "keyOfNote(box, behind) > key")
    @Broken(from = "return order;", to = "return Math.min(order, 22);")
    static void ordersOfKeys() {
        String[] sets = {"wx", "wy", "wz", "xy", "xz", "yz", "wxy", "wxz", "wyz", "xyz", "wxyz"};
        int orders = 0;
        for (String keys : sets) {
            orders += ordersFrom("", keys, 0);
        }
        due("orders tried", orders, 6 * 2 + 4 * 6 + 24);
    }

    /** Tries the orders as they come in the alphabet; answers how many there are. */
    private static int ordersFrom(String begun, String left, int number) {
        if (left.isEmpty()) {
            fresh();
            StringBuilder page = new StringBuilder("<a");
            for (char key : begun.toCharArray()) {
                page.append(' ').append(key).append("=0");
            }
            pack(page + "></a>");
            due("the order " + begun, x.code(0, 2, 1 + begun.length()), number);
            due("nothing behind it", x.code(0, 2, 2 + begun.length()), NONE);
            textOf(0, page + "></a>");
            return 1;
        }
        int met = 0;
        for (int i = 0; i < left.length(); i++) {
            met += ordersFrom(begun + left.charAt(i), left.substring(0, i) + left.substring(i + 1), number + met);
        }
        return met;
    }

    @Sentence(in = "PACKING", says = "if the same word was met before, its place in the list of all words, from 0, the one that was met"
        + " last at the front, and it comes to the front")
    @Broken(from = "words.meet(asNumber);", to = "if (rank == ABSENT) { words.meet(asNumber); }")
    @Broken(from = "codes.add(rank);", to = "codes.add(rank + 1);")
    @Broken(from = "long asNumber = 0;", to = "int asNumber = 0;")
    @Broken(from = "- 'g' + 1; }", to = "- 'g'; }")
    @Broken(from = "LETTERS_AND_NONE = 17", to = "LETTERS_AND_NONE = 8")
    @Broken(from = "FrontList(MOST_PAGES * MOST_WORDS + MOST_WORDS)", to = "FrontList(63)")
    static void aWordThatWasMet() {
        pack("<a>g<b>h</b>i<b>g</b>h<b>h</b></a>");
        row(0, 3, 0, 1, 0, 1, 1, 1, 2, 1, 2, 2, 2, 0);
        pack("<c>i<a>g</a>g</c>");
        row(1, 3, 2, 2, 0);
        // Words that begin alike, or end alike, are not the same.
        fresh();
        pack("<a>g<b>gg</b>ggg<b>v</b>gv<b>vg</b>o<b>vv</b>hg<b></b>gh</a>");
        due("count(4)", x.count(4), 10);
        // The first two are the same word to one who counts with 32 bits alone.
        pack("<a>gggggggg<b>qnvvtqph</b>gggggggg<b>vvvvvvvv</b>vvvvvvvu<b>vvvvvvvv</b></a>");
        due("count(4)", x.count(4), 14);
        row(1, 3, 10, 8, 0, 0, 0, 0, 0, 0, 0, 0, 11, 8, 10, 7, 15, 15, 13, 10, 9, 1, 1,
            12, 8, 15, 15, 15, 15, 15, 15, 15, 15, 13, 8, 15, 15, 15, 15, 15, 15, 15, 14, 1);
        manyWords(16, 18, 18, 11, 1);
        due("count(4)", x.count(4), 64);
        pack("<a>g<b></b>g</a>");
        row(5, 3, 63, 0);
    }

    /** Pages of so many new words each, in a new object. */
    private static void manyWords(int... perPage) {
        fresh("aa");
        int word = 0;
        for (int words : perPage) {
            StringBuilder text = new StringBuilder();
            for (int left = words; left > 0; left--) {
                text.append("<a>").append(word < 16 ? "" : LETTERS[word / 16 - 1]).append(LETTERS[word % 16]);
                word++;
            }
            due("pack() of " + text, pack(text + (words > 1 ? "</a></a>" : "</a>")) > 0 ? 1 : 0, 1);
        }
    }

    @Sentence(in = "PACKING", says = "otherwise the length of the list, and then the length of the word (1 to 8), and each of its"
        + " letters (0 for g); and it is put to the front.")
    @Broken(from = "codes.add(words.size());", to = "codes.add(0);")
    @Broken(from = "codes.add(end - start);", to = "codes.add(end - start - 1);")
    @Broken(from = "codes.add(page.letters.at(place) - 'g');", to = "codes.add(page.letters.at(place) - 'f');")
    @Broken(from = "words.meet(asNumber);", to = "if (rank != ABSENT) { words.meet(asNumber); }")
    static void aWordThatIsNew() {
        pack("<a>g<b>v</b>ghijklmn<b>opqrstuv</b>v</a>");
        row(0, 3, 0, 1, 0, 1, 1, 15, 2, 8, 0, 1, 2, 3, 4, 5, 6, 7, 3, 8, 8, 9, 10, 11, 12, 13, 14, 15, 2);
        for (int length = 1; length <= 8; length++) {
            fresh();
            pack("<a>" + "vvvvvvvv".substring(0, length) + "</a>");
            due("the length", x.code(0, 3, 1), length);
            due("the last letter", x.code(0, 3, 1 + length), 15);
            due("the end", x.code(0, 3, 2 + length), NONE);
        }
    }

    @Sentence(in = "PACKING", says = "A code n takes 2 * k + 1 bits, where k is the number of binary digits of n + 1, less 1. (So 0"
        + " takes 1 bit, 1 and 2 take 3 bits.)")
    @Broken(from = "rest = code + 1;", to = "rest = code;")
    @Broken(from = "rest = code + 1;", to = "rest = Math.min(code + 1, 63);")
    @Broken(from = "rest > 1; rest", to = "rest > 2; rest")
    @Broken(from = "int bits = 1; for", to = "int bits = 0; for")
    @Broken(from = "bits += 2;", to = "bits += 1;")
    static void bitsOfCodes() {
        // Digits: 0 takes 1 bit, 1 and 2 take 3, 3 to 6 take 5, 7 to 9 take 7; the code 2 of the set takes 3 more.
        int[] ofDigit = {1, 3, 3, 5, 5, 5, 5, 7, 7, 7};
        for (int digit = 0; digit <= 9; digit++) {
            fresh();
            pack("<a w=" + digit + "></a>");
            due("bits(0, 2) of " + digit, x.bits(0, 2), 3 + ofDigit[digit]);
        }
        // Letters: 14 takes 7 bits, 15 takes 9.
        fresh();
        pack("<a>u</a>");
        due("bits(0, 3) of u", x.bits(0, 3), 1 + 3 + 7);
        fresh();
        pack("<a>v</a>");
        due("bits(0, 3) of v", x.bits(0, 3), 1 + 3 + 9);
        longLists();
    }

    /** New words behind 30, 31, 62 and 63 others; 2 letters take 3 bits, and letters from 3 to 6 take 5. */
    private static void longLists() {
        manyWords(16, 14, 1, 1);
        due("code(2, 3, 0)", x.code(2, 3, 0), 30);
        due("bits of gu", x.bits(2, 3), 9 + 3 + 1 + 7);
        due("code(3, 3, 0)", x.code(3, 3, 0), 31);
        due("bits of gv", x.bits(3, 3), 11 + 3 + 1 + 9);
        manyWords(16, 18, 18, 10, 1, 1);
        due("code(4, 3, 0)", x.code(4, 3, 0), 62);
        due("bits of iu", x.bits(4, 3), 11 + 3 + 3 + 7);
        due("code(5, 3, 0)", x.code(5, 3, 0), 63);
        due("bits of iv", x.bits(5, 3), 13 + 3 + 3 + 9);
    }

    @Sentence(in = "PACKING", says = "Steps take 2 bits each.")
    @Broken(from = "BITS_OF_STEP = 2", to = "BITS_OF_STEP = 3")
    @Broken(from = "if (row == ROW_OF_STEPS) { return", to = "if (row > 5) { return")
    static void bitsOfSteps() {
        fresh("bb");
        pack("<a></a>");
        due("bits(0, 0)", x.bits(0, 0), 4);
        pack("<a>g<b><b></b></a>");
        due("bits(1, 0)", x.bits(1, 0), 14);
    }

    // ---- PATHS

    @Sentence(in = "PATHS", says = "A path is a text: one or more parts with \"/\" between two")
    @Broken(from = "mode == NAME_DUE ? text.size() : ABSENT", to = "names.size() == 0 ? text.size() : ABSENT")
    @Broken(from = "if (mode != NAME_DUE && letter == '/')", to = "if (letter == '/')")
    @Broken(from = "if (mode != NAME_DUE && letter == '/')", to = "if (mode == BEHIND_NAME && letter == '/')")
    @Broken(from = "mode == NAME_DUE ? text.size() : ABSENT", to = "mode == NAME_DUE || names.size() > 49 ? text.size() : ABSENT")
    @Broken(from = "if (mode == NAME_DUE && isNameLetter(letter))", to = "if (isNameLetter(letter))")
    static void partsWithSlashesBetween() {
        pack("<a><b><c></c></b></a>");
        path(0, "a", 0, 0, 1, 0, NONE, 1);
        path(0, "a/b", 3, 0, 1, 0, NONE, 2);
        path(0, "a1/b/c", 6, 0, 0, 0, NONE, 3);
        pathFault("", 0);
        pathFault("/", 0);
        pathFault("/a", 0);
        pathFault("a/", 2);
        pathFault("a1/", 3);
        pathFault("a//b", 2);
        pathFault("ab", 1);
        pathFault("a/bc", 3);
        fresh();
        pack("<a></a>");
        leadsToNone("a" + "/a".repeat(49));
    }

    @Sentence(in = "PATHS", says = "a part is a name and perhaps a digit from 1 to 9 (1 if it is not told)")
    @Broken(from = "letter >= '1' && letter <= '9'", to = "letter >= '0' && letter <= '9'")
    @Broken(from = "letter >= '1' && letter <= '9'", to = "letter > '1' && letter <= '9'")
    @Broken(from = "letter >= '1' && letter <= '9'", to = "letter >= '1' && letter < '9'")
    @Broken(from = "letter >= '1' && letter <= '9'", to = "letter >= '1' && letter <= ':'")
    @Broken(from = "mode == BEHIND_NAME && letter >= '1'", to = "mode != NAME_DUE && letter >= '1'")
    @Broken(from = "numbers.add(1);", to = "numbers.add(2);")
    static void digitsOfParts() {
        fresh("bb");
        pack("<a>" + "<b>".repeat(10) + "</b></a>");
        path(0, "a/b", 3);
        path(0, "a/b1", 3);
        path(0, "a/b2", 6);
        path(0, "a/b8", 24);
        path(0, "a/b9", 27);
        pathFault("a/b0", 3);
        pathFault("a0", 1);
        pathFault("a:", 1);
        pathFault("a/b10", 4);
        pathFault("a11", 2);
        pathFault("1", 0);
        pathFault("g", 0);
        pathFault("`", 0);
        path(0, "f", NONE);
    }

    @Sentence(in = "PATHS", says = "It leads from the outermost box (the first part has its name, and the number 1; otherwise it leads"
        + " to none)")
    @Broken(from = "names.at(0) == page.boxNames.at(0) && numbers.at(0) == 1", to = "names.at(0) == page.boxNames.at(0)")
    @Broken(from = "names.at(0) == page.boxNames.at(0) && numbers.at(0) == 1", to = "numbers.at(0) == 1")
    static void theFirstPart() {
        pack("<b><a></a><b></b><b></b></b>");
        path(0, "b", 0);
        path(0, "b1", 0);
        leadsToNone("b2");
        leadsToNone("b9");
        leadsToNone("a");
        leadsToNone("b2/b");
        leadsToNone("a/a");
        path(0, "b1/b", 10);
    }

    @Sentence(in = "PATHS", says = "to its so-manieth box with the name of the second part among those that stand in it directly, and"
        + " so on.")
    @Broken(from = "boxesAround.at(inside) == box && boxNames.at(inside) == name", to = "boxNames.at(inside) == name")
    @Broken(from = "boxesAround.at(inside) == box && boxNames.at(inside) == name", to = "boxesAround.at(inside) == box")
    @Broken(from = "if (met == number)", to = "if (met >= number - 1)")
    @Broken(from = "part < names.size() && box != ABSENT", to = "part < Math.min(names.size(), 5) && box != ABSENT")
    @Broken(from = "page.boxInside(box, names.at(part), numbers.at(part))", to = "page.boxInside(0, names.at(part), numbers.at(part))")
    static void theSoManiethBoxDirectlyInside() {
        pack("<a><b><c></c></b><c></c><b><b><a></a></b></b></a>");
        path(0, "a/b", 3);
        path(0, "a/b2", 24);
        path(0, "a/c", 17);
        path(0, "a/b/c", 6);
        path(0, "a/b2/b", 27);
        path(0, "a/b2/b/a", 30);
        leadsToNone("a/b3");
        leadsToNone("a/c2");
        leadsToNone("a/a");
        leadsToNone("a/b2/c");
        leadsToNone("a/b/c2");
        leadsToNone("a/b2/b/a/a");
        fresh();
        pack("<a><b><c><d><e><f></f></e></d></c></b></a>");
        path(0, "a/b/c/d/e/f", 15, 0, 0, 0, NONE, 6);
        leadsToNone("a/b/c/d/e/f/a");
    }

    // ---- TEXTS

    @Sentence(in = "TEXTS", says = "There is a text of at most 100 characters, empty at first.")
    @Broken(from = "MOST_TYPED = 100", to = "MOST_TYPED = 99")
    @Broken(from = "MOST_TYPED = 100", to = "MOST_TYPED = 101")
    @Broken(from = "public UnmarkedPages() {", to = "public UnmarkedPages() { text.add(32);")
    static void textsOf100Characters() {
        due("count(8)", x.count(8), 0);
        due("clearText()", x.clearText(), 0);
        due("fault(0)", x.fault(0), 0);
        String page = "<a>" + "<b>gggggg</b>".repeat(7) + "gg</a>";
        due("the length", page.length(), 100);
        write(page);
        due("type", x.type('g'), FULL);
        due("count(8)", x.count(8), 100);
        due("fault(0)", x.fault(0), NONE);
        due("pack()", x.pack(), x.bits(0, 4));
        textOf(0, page);
        due("charAt(0, 99)", x.charAt(0, 99), '>');
        due("charAt(0, 100)", x.charAt(0, 100), NONE);
        due("clearText()", x.clearText(), 100);
    }

    @Sentence(in = "TEXTS", says = "The fault of the text as a path is the place, from 0, of the first character that is not allowed at"
        + " its place, or the length of the text if it ends too early.")
    @Broken(from = "if (!takes(text.at(place))) { return place; }", to = "if (!takes(text.at(place))) { return place + 1; }")
    @Broken(from = "if (!takes(text.at(place))) { return place; }", to = "takes(text.at(place));")
    @Broken(from = "mode == NAME_DUE ? text.size() : ABSENT", to = "mode == NAME_DUE ? Math.max(text.size() - 1, 0) : ABSENT")
    @Broken(from = "mode == NAME_DUE ? text.size() : ABSENT", to = "mode == NAME_DUE && text.size() > 0 ? text.size() : ABSENT")
    static void faultsOfPaths() {
        pack("<a></a>");
        pathFault("", 0);
        pathFault("<a></a>", 0);
        pathFault("a/", 2);
        pathFault("a/b1/", 5);
        pathFault("a?b?", 1);
        pathFault("a/ b", 2);
        pathFault("a1a", 2);
        pathFault("a/1", 2);
        fresh();
        pack("<a></a>");
        pathFault("a/".repeat(50), 100);
        fresh();
        pack("<a></a>");
        pathFault("a/".repeat(49) + "a\u0000", 99);
        for (char odd : new char[] {0, 127, 'a' + 256, 65535}) {
            pathFault("a/" + odd, 2);
        }
    }

    // ---- HISTORY

    @Sentence(in = "HISTORY", says = "A history of at most 4 states is kept; when one more is recorded, the oldest one is dropped")
    @Broken(from = "MOST_STATES = 4", to = "MOST_STATES = 3")
    @Broken(from = "MOST_STATES = 4", to = "MOST_STATES = 5")
    @Broken(from = "history[history.length - 1] = room;", to = "history[history.length - 1] = history[0]; history[0] = room;")
    @Broken(from = "for (int place = 1; place < history.length; place++) { history[place - 1] = history[place]; }",
        to = "room = history[history.length - 1];")
    static void fourStates() {
        for (int acts = 1; acts <= 6; acts++) {
            due("rule", x.rule(acts - 1, 0, true), acts);
            due("count(7)", x.count(7), Math.min(acts, 4));
        }
        for (int left = 3; left >= 0; left--) {
            due("undo()", x.undo(), left);
            due("count(1)", x.count(1), left + 2);
            due("the latest rule is gone", x.rule(left + 2, 0, false), NONE);
        }
        due("undo()", x.undo(), NONE);
        due("the dropped ones stay", x.count(1), 2);
        // Dropped again and again.
        for (int acts = 0; acts < 100; acts++) {
            due("rule", x.rule(5, 5, acts % 2 == 0), acts % 2 == 0 ? 3 : 2);
        }
        due("count(7)", x.count(7), 4);
        due("undo()", x.undo(), 3);
        due("count(1)", x.count(1), 3);
        due("undo()", x.undo(), 2);
        due("count(1)", x.count(1), 2);
    }

    @Sentence(in = "HISTORY", says = "undo() removes and restores the latest one.")
    @Broken(from = "now.become(history[historySize]);", to = "now.become(history[0]);")
    @Broken(from = "historySize--; now.become", to = "historySize -= 0; now.become")
    @Broken(from = "now.become(history[historySize]); packAnew();", to = "now.become(history[historySize]);")
    static void undoTakesTheLatestState() {
        pack("<a w=1>g</a>");
        pack("<b></b>");
        x.first(1);
        due("undo()", x.undo(), 2);
        textOf(0, "<a w=1>g</a>");
        due("latest(0, 0)", x.latest(0, 0), 1);
        due("undo()", x.undo(), 1);
        due("count(0)", x.count(0), 1);
        due("known(6, 0)", x.known(6, 0), 0);
        due("count(2)", x.count(2), 6 + 1 + 3 + 3 + 1 + 3 + 1);
        due("undo()", x.undo(), 0);
        due("count(0)", x.count(0), 0);
        due("count(4)", x.count(4), 0);
        due("latest(0, 0)", x.latest(0, 0), NONE);
        due("undo()", x.undo(), NONE);
    }

    @Sentence(in = "HISTORY", says = "Each call of a method that is described as an act, and returns no error and not NONE, records the"
        + " state that was before it.")
    @Broken(from = "recordState(); now.setEnds(name, ended, is);", to = "now.setEnds(name, ended, is); recordState();")
    @Broken(from = "recordState(); now.setEnds(name, ended, is);", to = "now.setEnds(name, ended, is);")
    @Broken(from = "recordState(); Codes codes", to = "Codes codes")
    @Broken(from = "recordState(); now.pageCount--;", to = "now.pageCount--;")
    @Broken(from = "recordState(); now.bringToFront(page);", to = "now.bringToFront(page);")
    @Broken(from = "recordState(); now.become(snapshot);", to = "now.become(snapshot);")
    @Broken(from = "snapshot.become(now);", to = "snapshot.become(now); recordState();")
    @Broken(from = "recordState(); now.become(snapshot);", to = "if (snapshot.pageCount != now.pageCount) { recordState(); } now.become(snapshot);")
    @Broken(from = "text.add(character);", to = "recordState(); text.add(character);")
    @Broken(from = "text.clear(); return length;", to = "recordState(); text.clear(); return length;")
    @Broken(from = "int before = alone ?", to = "recordState(); int before = alone ?")
    @Broken(from = "now.become(history[historySize]);", to = "now.become(history[historySize]); recordState();")
    static void actsRecordTheStateBefore() {
        due("rule", x.rule(0, 1, true), 1);
        due("count(7) behind rule", x.count(7), 1);
        due("undo()", x.undo(), 0);
        due("count(1)", x.count(1), 0);
        pack("<a></a>");
        due("count(7) behind pack", x.count(7), 1);
        pack("<b></b>");
        due("first(1)", x.first(1), 10000 + 6 + 8 - 8 - 8 + 0);
        due("count(7) behind first", x.count(7), 3);
        due("undo()", x.undo(), 2);
        textOf(0, "<a></a>");
        due("unpackLast()", x.unpackLast(), 1);
        due("count(7) behind unpackLast", x.count(7), 3);
        due("undo()", x.undo(), 2);
        textOf(1, "<b></b>");
        due("keep()", x.keep(), 2);
        due("count(7) behind keep", x.count(7), 2);
        // These are no acts.
        x.clearText();
        x.type('<');
        x.fault(0);
        x.charAt(0, 0);
        x.code(0, 0, 0);
        x.bits(0, 0);
        x.known(6, 0);
        x.latest(0, 0);
        write("a");
        x.path(0, 0);
        write("<a></a>");
        x.wouldTake(true);
        x.wouldTake(false);
        due("count(7) behind what is no act", x.count(7), 2);
        // An act also if nothing changes by it.
        due("restore()", x.restore(), 2);
        due("count(7) behind restore", x.count(7), 3);
        due("undo()", x.undo(), 2);
        due("count(0)", x.count(0), 2);
    }

    @Sentence(in = "HISTORY", says = "There is one snapshot, empty at first.")
    @Broken(from = "private boolean hasSnapshot;", to = "private boolean hasSnapshot = true;")
    @Broken(from = "snapshot.become(now);", to = "if (!hasSnapshot) { snapshot.become(now); }")
    static void oneSnapshotEmptyAtFirst() {
        due("restore()", x.restore(), NONE);
        x.rule(0, 0, true);
        due("restore()", x.restore(), NONE);
        due("keep()", x.keep(), 0);
        pack("<a></a>");
        due("keep()", x.keep(), 1);
        x.unpackLast();
        due("restore()", x.restore(), 1);
        due("restore()", x.restore(), 1);
        // A snapshot of a state without pages is one as well.
        fresh();
        due("keep()", x.keep(), 0);
        due("restore()", x.restore(), 0);
        due("count(7)", x.count(7), 1);
    }

    @Sentence(in = "HISTORY", says = "A state is everything but the text, the history and the snapshot.")
    @Broken(from = "rules.become(other.rules);", to = "rules.fill(0);")
    @Broken(from = "packAnew(); return historySize;", to = "packAnew(); text.clear(); return historySize;")
    @Broken(from = "packAnew(); return historySize;", to = "packAnew(); hasSnapshot = false; return historySize;")
    @Broken(from = "recordState(); now.become(snapshot);", to = "recordState(); historySize = 1; now.become(snapshot);")
    @Broken(from = "recordState(); now.become(snapshot);", to = "recordState(); text.clear(); now.become(snapshot);")
    static void whatAStateIs() {
        due("rule", x.rule(0, 1, true), 1);
        pack("<a><b></a>");
        due("keep()", x.keep(), 1);
        x.rule(0, 1, false);
        write("abc");
        due("undo()", x.undo(), 2);
        due("undo()", x.undo(), 1);
        due("the text stays", x.count(8), 3);
        due("count(0)", x.count(0), 0);
        due("rules come back", x.rule(0, 1, true), NONE);
        due("the snapshot stays", x.restore(), 1);
        due("the history stays", x.count(7), 2);
        due("the text stays", x.clearText(), 3);
        due("undo()", x.undo(), 1);
        due("undo()", x.undo(), 0);
        due("count(1)", x.count(1), 0);
        due("restore()", x.restore(), 1);
        due("count(1)", x.count(1), 1);
        textOf(0, "<a><b></a>");
    }

    // ---- ERRORS

    @Sentence(in = "ERRORS", says = "Where several errors can apply, the order of the @return line is the order of the checks.")
    @Broken(from = "return FAULT_BASE - reader.faultPlace; } if (now.pageCount >= MOST_PAGES) { return FULL; }",
        to = "return now.pageCount >= MOST_PAGES ? FULL : FAULT_BASE - reader.faultPlace; } if (now.pageCount >= MOST_PAGES) { return FULL; }")
    @Broken(from = "public int charAt(int page, int place) {", to = "public int charAt(int page, int place) { if (place < 0) { return BAD_VALUE; }")
    @Broken(from = "public int code(int page, int row, int place) {",
        to = "public int code(int page, int row, int place) { if (row < 0) { return BAD_VALUE; }")
    @Broken(from = "public int code(int page, int row, int place) {",
        to = "public int code(int page, int row, int place) { if (place < 0) { return BAD_VALUE; }")
    @Broken(from = "public int bits(int page, int row) {", to = "public int bits(int page, int row) { if (row > 4) { return BAD_VALUE; }")
    @Broken(from = "public int path(int page, int what) {", to = "public int path(int page, int what) { if (what < 0) { return BAD_VALUE; }")
    @Broken(from = "public int path(int page, int what) {",
        to = "public int path(int page, int what) { if (text.size() == 0) { return FAULT_BASE; }")
    @Broken(from = "public int known(int name, int rank) {", to = "public int known(int name, int rank) { if (rank < 0) { return BAD_VALUE; }")
    static void theOrderOfTheChecks() {
        due("charAt(0, -1) without pages", x.charAt(0, -1), UNKNOWN);
        due("code(0, -1, 0) without pages", x.code(0, -1, 0), UNKNOWN);
        due("code(0, 0, -1) without pages", x.code(0, 0, -1), UNKNOWN);
        due("bits(0, 5) without pages", x.bits(0, 5), UNKNOWN);
        due("path(0, -1) without pages or text", x.path(0, -1), UNKNOWN);
        due("path(0, 0) without pages or text", x.path(0, 0), UNKNOWN);
        for (int page = 0; page < 6; page++) {
            pack("<a></a>");
        }
        due("code(6, 4, -1)", x.code(6, 4, -1), UNKNOWN);
        due("bits(-1, -1)", x.bits(-1, -1), UNKNOWN);
        due("path(6, 6) of a wrong text", x.path(6, 6), UNKNOWN);
        due("path(0, 6) of a wrong text", x.path(0, 6), BAD_VALUE);
        due("path(0, 0) of a wrong text", x.path(0, 0), -100);
        due("known(7, -1)", x.known(7, -1), UNKNOWN);
        due("known(-1, -1)", x.known(-1, -1), UNKNOWN);
        x.type('g');
        due("pack() of a wrong text and no room", x.pack(), -107);
        x.clearText();
        due("pack() of no text and no room", x.pack(), -100);
        due("path(0, 6) of no text", x.path(0, 6), BAD_VALUE);
        due("path(6, 0) of no text", x.path(6, 0), UNKNOWN);
    }

    @Sentence(in = "ERRORS", says = "NONE is no error; it is returned only if no error applies.")
    @Broken(from = "public int rule(int name, int ended, boolean is) {",
        to = "public int rule(int name, int ended, boolean is) { if (!is && now.ruleCount() == 0) { return NONE; }")
    @Broken(from = "public int fault(int what) {", to = "public int fault(int what) { reader.read(text, now); if (!reader.hasFault()) { return NONE; }")
    @Broken(from = "public int code(int page, int row, int place) {",
        to = "public int code(int page, int row, int place) { if (place > 100) { return NONE; }")
    @Broken(from = "public int charAt(int page, int place) {", to = "public int charAt(int page, int place) { if (place > 100) { return NONE; }")
    @Broken(from = "public int known(int name, int rank) {", to = "public int known(int name, int rank) { if (rank > 5) { return NONE; }")
    @Broken(from = "public int first(int page) {", to = "public int first(int page) { if (page == 0) { return NONE; }")
    @Broken(from = "if (what < 0 || what > 5) { return BAD_VALUE; }", to = "if (what == 6 && pathReader.readFault(text) == ABSENT"
        + " && pathReader.boxIn(now.pageAt(page)) == ABSENT) { return NONE; } if (what < 0 || what > 5) { return BAD_VALUE; }")
    static void noneOnlyWithoutAnError() {
        due("rule(6, 0, false)", x.rule(6, 0, false), UNKNOWN);
        due("rule(0, 6, false)", x.rule(0, 6, false), UNKNOWN);
        due("first(0) without pages", x.first(0), UNKNOWN);
        due("charAt(0, 1000) without pages", x.charAt(0, 1000), UNKNOWN);
        due("code(0, 0, 1000) without pages", x.code(0, 0, 1000), UNKNOWN);
        pack("<a></a>");
        due("fault(3) of a page", x.fault(3), BAD_VALUE);
        due("fault(-1) of a page", x.fault(-1), BAD_VALUE);
        due("code(0, 4, 1000)", x.code(0, 4, 1000), BAD_VALUE);
        due("code(0, -1, 1000)", x.code(0, -1, 1000), BAD_VALUE);
        due("known(7, 1000)", x.known(7, 1000), UNKNOWN);
        due("latest(0, 4)", x.latest(0, 4), UNKNOWN);
        write("b");
        due("path(0, 6) of a path to none", x.path(0, 6), BAD_VALUE);
        due("path(1, 0) of a path to none", x.path(1, 0), UNKNOWN);
        write("b/");
        due("path(0, 0) of a wrong path to none", x.path(0, 0), -102);
    }

    @Sentence(in = "ERRORS", says = "A call that returns an error or NONE changes nothing.")
    @Broken(from = "public int rule(int name, int ended, boolean is) {", to = "public int rule(int name, int ended, boolean is) { recordState();")
    @Broken(from = "if (now.ends(name, ended) == is) {", to = "if (now.ends(name, ended) == is) { recordState();")
    @Broken(from = "if (now.pageCount >= MOST_PAGES) {", to = "if (now.pageCount >= MOST_PAGES) { recordState();")
    @Broken(from = "if (now.pageCount >= MOST_PAGES) {", to = "if (now.pageCount >= MOST_PAGES) { knowledge.take(reader.page, trialCodes);")
    @Broken(from = "public int pack() { reader.read(text, now);", to = "public int pack() { reader.read(text, now); if (reader.hasFault()) { text.clear(); }")
    @Broken(from = "public int pack() { reader.read(text, now);", to = "public int pack() { reader.read(text, now); if (reader.hasFault()) { recordState(); }")
    @Broken(from = "public int unpackLast() {", to = "public int unpackLast() { if (now.pageCount == 0) { recordState(); }")
    @Broken(from = "if (page == 0) { return NONE; }", to = "if (page == 0) { recordState(); return NONE; }")
    @Broken(from = "public int first(int page) {", to = "public int first(int page) { if (page > 5) { recordState(); }")
    @Broken(from = "if (text.size() >= MOST_TYPED) {", to = "if (text.size() >= MOST_TYPED) { text.put(99, character);")
    @Broken(from = "if (historySize <= 0 || historySize > history.length) {", to = "if (historySize <= 0 || historySize > history.length) { now.pageCount = 0;")
    @Broken(from = "public int restore() { if (!hasSnapshot) {", to = "public int restore() { if (!hasSnapshot) { recordState();")
    @Broken(from = "if (!hasSnapshot) { return NONE; }", to = "if (!hasSnapshot) { now.become(snapshot); packAnew(); return NONE; }")
    @Broken(from = "return box == ABSENT ? NONE", to = "text.clear(); return box == ABSENT ? NONE")
    @Broken(from = "int place = pathReader.readFault(text); if (place != ABSENT) {", to = "int place = pathReader.readFault(text); if (place != ABSENT) { text.clear();")
    @Broken(from = "default: return BAD_VALUE;", to = "default: recordState(); return BAD_VALUE;")
    static void refusedCallsChangeNothing() {
        Refused.tryAll();
    }

    @Sentence(in = "ERRORS", says = "The constants: `UNKNOWN = -1`: There is no such page, name or key.")
    @Broken(from = "int UNKNOWN = -1;", to = "int UNKNOWN = -7;")
    static void unknown() {
        due("rule(6, 0, true)", x.rule(6, 0, true), -1);
        due("first(0)", x.first(0), -1);
        due("charAt(0, 0)", x.charAt(0, 0), -1);
        due("code(0, 0, 0)", x.code(0, 0, 0), -1);
        due("bits(0, 0)", x.bits(0, 0), -1);
        due("path(0, 0)", x.path(0, 0), -1);
        due("known(7, 0)", x.known(7, 0), -1);
        due("latest(6, 0)", x.latest(6, 0), -1);
    }

    @Sentence(in = "ERRORS", says = "`BAD_VALUE = -2`: Another argument is out of range.")
    @Broken(from = "int BAD_VALUE = -2;", to = "int BAD_VALUE = -7;")
    static void badValue() {
        pack("<a></a>");
        due("fault(3)", x.fault(3), -2);
        due("charAt(0, -1)", x.charAt(0, -1), -2);
        due("code(0, 4, 0)", x.code(0, 4, 0), -2);
        due("bits(0, 5)", x.bits(0, 5), -2);
        due("path(0, 6)", x.path(0, 6), -2);
        due("known(0, -1)", x.known(0, -1), -2);
        due("count(9)", x.count(9), -2);
    }

    @Sentence(in = "ERRORS", says = "`FULL = -3`: There is no more room.")
    @Broken(from = "int FULL = -3;", to = "int FULL = -7;")
    static void full() {
        write("<a></a>");
        for (int page = 0; page < 6; page++) {
            x.pack();
        }
        due("pack()", x.pack(), -3);
        write("g".repeat(100));
        due("type", x.type('g'), -3);
    }

    @Sentence(in = "ERRORS", says = "`NOT_POSSIBLE = -4`: This is not possible.")
    @Broken(from = "int NOT_POSSIBLE = -4;", to = "int NOT_POSSIBLE = -7;")
    static void notPossible() {
        due("unpackLast()", x.unpackLast(), -4);
    }

    @Sentence(in = "ERRORS", says = "`NONE = -5`: There is no such thing; not an error.")
    @Broken(from = "int NONE = -5;", to = "int NONE = -7;")
    static void none() {
        due("rule(0, 0, false)", x.rule(0, 0, false), -5);
        due("undo()", x.undo(), -5);
        due("restore()", x.restore(), -5);
        due("fault(2)", x.fault(2), -5);
        due("known(0, 0)", x.known(0, 0), -5);
        due("latest(0, 0)", x.latest(0, 0), -5);
        pack("<a></a>");
        due("fault(0)", x.fault(0), -5);
        due("first(0)", x.first(0), -5);
        due("charAt(0, 7)", x.charAt(0, 7), -5);
        due("code(0, 0, 2)", x.code(0, 0, 2), -5);
        write("b");
        due("path(0, 0)", x.path(0, 0), -5);
    }
}
