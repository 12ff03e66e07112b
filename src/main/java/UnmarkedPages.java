/** Marked pages, packed without their marks. ../shared/DOC.md says what each method promises. */
public final class UnmarkedPages {
    public static final int UNKNOWN = -1;
    public static final int BAD_VALUE = -2;
    public static final int FULL = -3;
    public static final int NOT_POSSIBLE = -4;
    public static final int NONE = -5;

    private static final int MOST_PAGES = 6;
    private static final int MOST_STATES = 4;
    private static final int MOST_TYPED = 100;
    private static final int MOST_OPEN = 6;
    private static final int MOST_LETTERS = 8;
    private static final int NAMES = 6;
    private static final int KEYS = 4;

    // A box takes three characters of the text at least, and so does what parts two words.
    private static final int MOST_BOXES = 34;
    private static final int MOST_WORDS = 34;
    // No row of codes has more numbers than its page has characters.
    private static final int MOST_CODES = 100;

    private static final int FAULT_BASE = -100;
    private static final int GAIN_BASE = 10000;
    private static final int ABSENT = -1;

    private static final int OPENED = 0;
    private static final int WORD_MET = 1;
    private static final int CLOSING_TOLD = 2;
    private static final int CLOSING_IMPLIED = 3;

    private static final int ROW_OF_STEPS = 0;
    private static final int ROW_OF_NAMES = 1;
    private static final int ROW_OF_NOTES = 2;
    private static final int ROW_OF_WORDS = 3;
    private static final int ROWS = 4;
    private static final int BITS_OF_STEP = 2;

    private final Row text = new Row(MOST_TYPED);
    private final Reader reader = new Reader();
    private final PathReader pathReader = new PathReader();

    private final State now = new State();
    private final State[] history = new State[MOST_STATES];
    private int historySize;
    private final State snapshot = new State();
    private boolean hasSnapshot;

    // What the pages of the state make known, and their codes, are no part of the states that are
    // kept: they follow from the pages, and are made anew whenever these have changed.
    private final Known knowledge = new Known();
    private final Codes[] packed = new Codes[MOST_PAGES];
    private final Known trialKnowledge = new Known();
    private final Codes trialCodes = new Codes();

    public UnmarkedPages() {
        for (int place = 0; place < history.length; place++) {
            history[place] = new State();
        }
        for (int place = 0; place < packed.length; place++) {
            packed[place] = new Codes();
        }
    }

    // ---- rules

    public int rule(int name, int ended, boolean is) {
        if (!isName(name) || !isName(ended)) {
            return UNKNOWN;
        }
        if (now.ends(name, ended) == is) {
            return NONE;
        }
        recordState();
        now.setEnds(name, ended, is);
        return now.ruleCount();
    }

    // ---- pages

    public int pack() {
        reader.read(text, now);
        if (reader.hasFault()) {
            return FAULT_BASE - reader.faultPlace;
        }
        if (now.pageCount >= MOST_PAGES) {
            return FULL;
        }
        recordState();
        Codes codes = codesOf(now.pageCount);
        now.addPage(reader.page);
        knowledge.take(reader.page, codes);
        return codes.bitsOfAll();
    }

    public int unpackLast() {
        if (now.pageCount <= 0) {
            return NOT_POSSIBLE;
        }
        recordState();
        now.pageCount--;
        packAnew();
        return now.pageCount;
    }

    public int first(int page) {
        if (!now.hasPage(page)) {
            return UNKNOWN;
        }
        if (page == 0) {
            return NONE;
        }
        int before = bitsOfAllPages();
        recordState();
        now.bringToFront(page);
        packAnew();
        return before - bitsOfAllPages() + GAIN_BASE;
    }

    // ---- texts

    public int type(char character) {
        if (text.size() >= MOST_TYPED) {
            return FULL;
        }
        text.add(character);
        return text.size();
    }

    public int clearText() {
        int length = text.size();
        text.clear();
        return length;
    }

    public int fault(int what) {
        if (what < 0 || what > 2) {
            return BAD_VALUE;
        }
        reader.read(text, now);
        if (!reader.hasFault()) {
            return NONE;
        }
        if (what == 0) {
            return reader.faultPlace;
        }
        return what == 1 ? reader.faultKind : reader.faultCause;
    }

    // ---- history

    public int undo() {
        if (historySize <= 0 || historySize > history.length) {
            return NONE;
        }
        historySize--;
        now.become(history[historySize]);
        packAnew();
        return historySize;
    }

    public int keep() {
        snapshot.become(now);
        hasSnapshot = true;
        return now.pageCount;
    }

    public int restore() {
        if (!hasSnapshot) {
            return NONE;
        }
        recordState();
        now.become(snapshot);
        packAnew();
        return now.pageCount;
    }

    // ---- what is told

    public int charAt(int page, int place) {
        if (!now.hasPage(page)) {
            return UNKNOWN;
        }
        if (place < 0) {
            return BAD_VALUE;
        }
        Row letters = now.pageAt(page).letters;
        return place < letters.size() ? letters.at(place) : NONE;
    }

    public int code(int page, int row, int place) {
        if (!now.hasPage(page)) {
            return UNKNOWN;
        }
        if (row < 0 || row >= ROWS || place < 0) {
            return BAD_VALUE;
        }
        Row codes = codesOf(page).rowAt(row);
        return place < codes.size() ? codes.at(place) : NONE;
    }

    public int bits(int page, int row) {
        if (!now.hasPage(page)) {
            return UNKNOWN;
        }
        if (row < 0 || row > ROWS) {
            return BAD_VALUE;
        }
        Codes codes = codesOf(page);
        return row == ROWS ? codes.bitsOfAll() : codes.bitsOfRow(row);
    }

    public int wouldTake(boolean alone) {
        reader.read(text, now);
        if (reader.hasFault()) {
            return FAULT_BASE - reader.faultPlace;
        }
        trialKnowledge.forget();
        int before = alone ? 0 : now.pageCount;
        for (int page = 0; page < before; page++) {
            trialKnowledge.take(now.pageAt(page), trialCodes);
        }
        trialKnowledge.take(reader.page, trialCodes);
        return trialCodes.bitsOfAll();
    }

    public int path(int page, int what) {
        if (!now.hasPage(page)) {
            return UNKNOWN;
        }
        if (what < 0 || what > 5) {
            return BAD_VALUE;
        }
        int place = pathReader.readFault(text);
        if (place != ABSENT) {
            return FAULT_BASE - place;
        }
        Page read = now.pageAt(page);
        int box = pathReader.boxIn(read);
        return box == ABSENT ? NONE : toldOfBox(read, box, what);
    }

    public int known(int name, int rank) {
        if (name < 0 || name > NAMES) {
            return UNKNOWN;
        }
        if (rank < 0) {
            return BAD_VALUE;
        }
        FrontList list = knowledge.namesIn(name);
        return rank < list.size() ? (int) list.at(rank) : NONE;
    }

    public int latest(int name, int key) {
        if (!isName(name) || key < 0 || key >= KEYS) {
            return UNKNOWN;
        }
        int value = knowledge.valueOf(name, key);
        return value == ABSENT ? NONE : value;
    }

    public int count(int what) {
        switch (what) {
            case 0:
                return now.pageCount;
            case 1:
                return now.ruleCount();
            case 2:
                return bitsOfAllPages();
            case 3:
                return now.letterCount();
            case 4:
                return knowledge.words.size();
            case 5:
                return now.stepCount(OPENED);
            case 6:
                return now.stepCount(CLOSING_IMPLIED);
            case 7:
                return historySize;
            case 8:
                return text.size();
            default:
                return BAD_VALUE;
        }
    }

    private int toldOfBox(Page page, int box, int what) {
        switch (what) {
            case 0:
                return page.boxPlaces.at(box);
            case 1:
                return page.wordsAround.countOf(box);
            case 2:
                return page.boxesAround.countOf(box);
            case 3:
                return page.keySet(box);
            case 4:
                int word = page.wordsAround.placeOf(box);
                return word == ABSENT ? NONE : page.wordLengths.at(word);
            default:
                // Each part of a path leads one box deeper.
                return pathReader.partCount();
        }
    }

    /** Must stand ahead of every change that an act makes. */
    private void recordState() {
        State room = history[0];
        if (historySize < history.length && historySize >= 0) {
            room = history[historySize];
            historySize++;
        } else {
            for (int place = 1; place < history.length; place++) {
                history[place - 1] = history[place];
            }
            history[history.length - 1] = room;
        }
        room.become(now);
    }

    private void packAnew() {
        knowledge.forget();
        for (int page = 0; page < now.pageCount; page++) {
            knowledge.take(now.pageAt(page), codesOf(page));
        }
    }

    private int bitsOfAllPages() {
        int sum = 0;
        for (int page = 0; page < now.pageCount; page++) {
            sum += codesOf(page).bitsOfAll();
        }
        return sum;
    }

    private Codes codesOf(int page) {
        return page >= 0 && page < packed.length ? packed[page] : trialCodes;
    }

    private static boolean isName(int name) {
        return name >= 0 && name < NAMES;
    }

    private static boolean isNameLetter(int letter) {
        return letter >= 'a' && letter <= 'f';
    }

    /** Numbers one behind the other, in a room that is made once. */
    private static final class Row {
        private final int[] items;
        private int size;

        Row(int most) {
            items = new int[Math.max(most, 0)];
        }

        int size() {
            return size;
        }

        void clear() {
            size = 0;
        }

        /** 0 where the row has no such place, which no text of a page holds. */
        int at(int place) {
            return place >= 0 && place < size && place < items.length ? items[place] : 0;
        }

        void add(int item) {
            if (size >= 0 && size < items.length) {
                items[size] = item;
                size++;
            }
        }

        void put(int place, int item) {
            if (place >= 0 && place < size && place < items.length) {
                items[place] = item;
            }
        }

        void fill(int item) {
            size = items.length;
            for (int place = 0; place < items.length; place++) {
                items[place] = item;
            }
        }

        int last() {
            return size > 0 && size <= items.length ? items[size - 1] : ABSENT;
        }

        void removeLast() {
            if (size > 0) {
                size--;
            }
        }

        int placeOf(int item) {
            for (int place = 0; place < size && place < items.length; place++) {
                if (items[place] == item) {
                    return place;
                }
            }
            return ABSENT;
        }

        int countOf(int item) {
            int sum = 0;
            for (int place = 0; place < size && place < items.length; place++) {
                if (items[place] == item) {
                    sum++;
                }
            }
            return sum;
        }

        void become(Row other) {
            int most = Math.min(items.length, other.items.length);
            size = Math.max(Math.min(other.size, most), 0);
            for (int place = 0; place < size && place < most; place++) {
                items[place] = other.items[place];
            }
        }
    }

    /** A list without doubles, the item that was met last at the front. */
    private static final class FrontList {
        private final long[] items;
        private int size;

        FrontList(int most) {
            items = new long[Math.max(most, 0)];
        }

        int size() {
            return size;
        }

        void clear() {
            size = 0;
        }

        long at(int place) {
            return place >= 0 && place < size && place < items.length ? items[place] : 0;
        }

        int placeOf(long item) {
            for (int place = 0; place < size && place < items.length; place++) {
                if (items[place] == item) {
                    return place;
                }
            }
            return ABSENT;
        }

        void meet(long item) {
            int place = placeOf(item);
            if (place == ABSENT) {
                place = size;
            }
            if (place < 0 || place >= items.length) {
                return;
            }
            if (place == size) {
                size++;
            }
            for (int behind = place; behind > 0; behind--) {
                items[behind] = items[behind - 1];
            }
            items[0] = item;
        }
    }

    /** The text of a page with its boxes and words, numbered as they come in it. */
    private static final class Page {
        final Row letters = new Row(MOST_TYPED);
        final Row steps = new Row(MOST_TYPED);
        final Row boxPlaces = new Row(MOST_BOXES);
        final Row boxNames = new Row(MOST_BOXES);
        // The number of the box around each box and around each word.
        final Row boxesAround = new Row(MOST_BOXES);
        final Row wordsAround = new Row(MOST_WORDS);
        final Row wordPlaces = new Row(MOST_WORDS);
        final Row wordLengths = new Row(MOST_WORDS);

        void clear() {
            letters.clear();
            steps.clear();
            boxPlaces.clear();
            boxNames.clear();
            boxesAround.clear();
            wordsAround.clear();
            wordPlaces.clear();
            wordLengths.clear();
        }

        void become(Page other) {
            letters.become(other.letters);
            steps.become(other.steps);
            boxPlaces.become(other.boxPlaces);
            boxNames.become(other.boxNames);
            boxesAround.become(other.boxesAround);
            wordsAround.become(other.wordsAround);
            wordPlaces.become(other.wordPlaces);
            wordLengths.become(other.wordLengths);
        }

        void addBox(int place, int name, int around) {
            steps.add(OPENED);
            boxPlaces.add(place);
            boxNames.add(name);
            boxesAround.add(around);
        }

        void addWord(int place, int around) {
            steps.add(WORD_MET);
            wordPlaces.add(place);
            wordLengths.add(1);
            wordsAround.add(around);
        }

        void lengthenWord() {
            wordLengths.put(wordLengths.size() - 1, wordLengths.last() + 1);
        }

        /** The key of a box's note as notes come in the text, ABSENT behind the last one. */
        int keyOfNote(int box, int note) {
            int place = boxPlaces.at(box) + 2 + 4 * note;
            return letters.at(place) == ' ' ? letters.at(place + 1) - 'w' : ABSENT;
        }

        int valueOfKey(int box, int key) {
            for (int note = 0; note < KEYS; note++) {
                if (keyOfNote(box, note) == key) {
                    return letters.at(boxPlaces.at(box) + 5 + 4 * note) - '0';
                }
            }
            return ABSENT;
        }

        int keySet(int box) {
            int set = 0;
            for (int note = 0; note < KEYS; note++) {
                int key = keyOfNote(box, note);
                if (key == ABSENT) {
                    return set;
                }
                set |= 1 << key;
            }
            return set;
        }

        /** The number of the order of a box's keys, of which there are so many, among all their orders. */
        int orderOfKeys(int box, int keys) {
            int order = 0;
            for (int note = 0; note < keys; note++) {
                int key = keyOfNote(box, note);
                int smallerBehind = 0;
                for (int behind = note + 1; behind < keys; behind++) {
                    if (keyOfNote(box, behind) < key) {
                        smallerBehind++;
                    }
                }
                order = order * (keys - note) + smallerBehind;
            }
            return order;
        }

        /** The so-manieth box with a name that stands directly in a box. */
        int boxInside(int box, int name, int number) {
            int met = 0;
            for (int inside = 0; inside < boxNames.size(); inside++) {
                if (boxesAround.at(inside) == box && boxNames.at(inside) == name) {
                    met++;
                    if (met == number) {
                        return inside;
                    }
                }
            }
            return ABSENT;
        }
    }

    /** Reads a text as a page, up to its fault if it has one. */
    private static final class Reader {
        private static final int NO_FAULT = -1;
        private static final int ENDS_EARLY = 0;
        private static final int WRONG_CHARACTER = 1;
        private static final int SECOND_KEY = 2;
        private static final int WRONG_CLOSING = 3;
        private static final int SEVENTH_BOX = 4;
        private static final int NINTH_LETTER = 5;
        private static final int BEHIND_PAGE = 6;

        private static final int AT_START = 0;
        private static final int BEHIND_MARK = 1;
        private static final int IN_OPENING = 2;
        private static final int KEY_DUE = 3;
        private static final int EQUALS_DUE = 4;
        private static final int DIGIT_DUE = 5;
        private static final int IN_BOX = 6;
        private static final int IN_WORD = 7;
        private static final int CLOSING_NAME_DUE = 8;
        private static final int CLOSING_END_DUE = 9;
        private static final int OVER = 10;

        final Page page = new Page();
        int faultPlace;
        int faultKind = NO_FAULT;
        int faultCause;
        private int mode;
        private final Row open = new Row(MOST_OPEN);
        // Where the latest box has its keys.
        private final Row keyPlaces = new Row(KEYS);

        boolean hasFault() {
            return faultKind != NO_FAULT;
        }

        void read(Row text, State rules) {
            page.clear();
            open.clear();
            faultKind = NO_FAULT;
            mode = AT_START;
            for (int place = 0; place < text.size() && faultKind == NO_FAULT; place++) {
                page.letters.add(text.at(place));
                take(place, text.at(place), rules);
            }
            if (faultKind == NO_FAULT && mode != OVER) {
                tell(text.size(), ENDS_EARLY, NONE);
            }
        }

        private void take(int place, int letter, State rules) {
            switch (mode) {
                case AT_START:
                    expect(letter == '<', BEHIND_MARK, place);
                    break;
                case BEHIND_MARK:
                    takeBehindMark(place, letter, rules);
                    break;
                case IN_OPENING:
                    expect(letter == ' ' || letter == '>', letter == ' ' ? KEY_DUE : IN_BOX, place);
                    break;
                case KEY_DUE:
                    takeKey(place, letter);
                    break;
                case EQUALS_DUE:
                    expect(letter == '=', DIGIT_DUE, place);
                    break;
                case DIGIT_DUE:
                    expect(letter >= '0' && letter <= '9', IN_OPENING, place);
                    break;
                case IN_BOX:
                case IN_WORD:
                    takeInBox(place, letter);
                    break;
                case CLOSING_NAME_DUE:
                    takeClosingName(place, letter, rules);
                    break;
                case CLOSING_END_DUE:
                    takeClosingEnd(place, letter);
                    break;
                default:
                    tell(place, BEHIND_PAGE, NONE);
                    break;
            }
        }

        private void expect(boolean isAllowed, int next, int place) {
            if (isAllowed) {
                mode = next;
            } else {
                tell(place, WRONG_CHARACTER, NONE);
            }
        }

        private void takeBehindMark(int place, int letter, State rules) {
            if (isNameLetter(letter)) {
                openBox(place - 1, letter - 'a', rules);
            } else {
                expect(letter == '/' && open.size() > 0, CLOSING_NAME_DUE, place);
            }
        }

        private void openBox(int place, int name, State rules) {
            for (int left = open.size(); left > 1 && rules.ends(name, latestName()); left--) {
                close(CLOSING_IMPLIED);
            }
            if (open.size() >= MOST_OPEN) {
                tell(place, SEVENTH_BOX, NONE);
                return;
            }
            int box = page.boxNames.size();
            page.addBox(place, name, open.last());
            open.add(box);
            keyPlaces.fill(ABSENT);
            mode = IN_OPENING;
        }

        private void takeKey(int place, int letter) {
            int key = letter - 'w';
            if (key < 0 || key >= KEYS) {
                tell(place, WRONG_CHARACTER, NONE);
            } else if (keyPlaces.at(key) != ABSENT) {
                tell(place, SECOND_KEY, keyPlaces.at(key));
            } else {
                keyPlaces.put(key, place);
                mode = EQUALS_DUE;
            }
        }

        private void takeInBox(int place, int letter) {
            if (letter < 'g' || letter > 'v') {
                expect(letter == '<', BEHIND_MARK, place);
            } else if (mode == IN_BOX) {
                page.addWord(place, open.last());
                mode = IN_WORD;
            } else if (page.wordLengths.last() < MOST_LETTERS) {
                page.lengthenWord();
            } else {
                tell(place, NINTH_LETTER, NONE);
            }
        }

        private void takeClosingName(int place, int letter, State rules) {
            if (!isNameLetter(letter)) {
                tell(place, WRONG_CHARACTER, NONE);
                return;
            }
            int name = letter - 'a';
            for (int left = open.size(); left > 1 && isEndedByClosing(name, rules); left--) {
                close(CLOSING_IMPLIED);
            }
            if (latestName() == name) {
                mode = CLOSING_END_DUE;
            } else {
                tell(place, WRONG_CLOSING, page.boxPlaces.at(open.last()));
            }
        }

        private void takeClosingEnd(int place, int letter) {
            if (letter != '>') {
                tell(place, WRONG_CHARACTER, NONE);
                return;
            }
            close(CLOSING_TOLD);
            mode = open.size() > 0 ? IN_BOX : OVER;
        }

        private boolean isEndedByClosing(int name, State rules) {
            int latest = latestName();
            return latest != name && rules.ends(name, latest);
        }

        private int latestName() {
            return page.boxNames.at(open.last());
        }

        private void close(int step) {
            page.steps.add(step);
            open.removeLast();
        }

        private void tell(int place, int kind, int cause) {
            faultPlace = place;
            faultKind = kind;
            faultCause = cause;
        }
    }

    /** Reads a text as a path. */
    private static final class PathReader {
        private static final int NAME_DUE = 0;
        private static final int BEHIND_NAME = 1;
        private static final int BEHIND_NUMBER = 2;

        private final Row names = new Row(MOST_TYPED);
        private final Row numbers = new Row(MOST_TYPED);
        private int mode;

        /** The place of the fault, or ABSENT. */
        int readFault(Row text) {
            names.clear();
            numbers.clear();
            mode = NAME_DUE;
            for (int place = 0; place < text.size(); place++) {
                if (!takes(text.at(place))) {
                    return place;
                }
            }
            return mode == NAME_DUE ? text.size() : ABSENT;
        }

        int partCount() {
            return names.size();
        }

        int boxIn(Page page) {
            boolean isOutermost = names.at(0) == page.boxNames.at(0) && numbers.at(0) == 1;
            int box = isOutermost ? 0 : ABSENT;
            for (int part = 1; part < names.size() && box != ABSENT; part++) {
                box = page.boxInside(box, names.at(part), numbers.at(part));
            }
            return box;
        }

        private boolean takes(int letter) {
            if (mode == NAME_DUE && isNameLetter(letter)) {
                names.add(letter - 'a');
                numbers.add(1);
                mode = BEHIND_NAME;
                return true;
            }
            if (mode == BEHIND_NAME && letter >= '1' && letter <= '9') {
                numbers.put(numbers.size() - 1, letter - '0');
                mode = BEHIND_NUMBER;
                return true;
            }
            if (mode != NAME_DUE && letter == '/') {
                mode = NAME_DUE;
                return true;
            }
            return false;
        }
    }

    /** The four rows of a page. */
    private static final class Codes {
        private final Row steps = new Row(MOST_CODES);
        private final Row names = new Row(MOST_CODES);
        private final Row notes = new Row(MOST_CODES);
        private final Row words = new Row(MOST_CODES);

        void clear() {
            steps.clear();
            names.clear();
            notes.clear();
            words.clear();
        }

        Row rowAt(int row) {
            switch (row) {
                case ROW_OF_STEPS:
                    return steps;
                case ROW_OF_NAMES:
                    return names;
                case ROW_OF_NOTES:
                    return notes;
                default:
                    return words;
            }
        }

        int bitsOfRow(int row) {
            if (row == ROW_OF_STEPS) {
                return steps.size() * BITS_OF_STEP;
            }
            Row codes = rowAt(row);
            int sum = 0;
            for (int place = 0; place < codes.size(); place++) {
                sum += bitsOfCode(codes.at(place));
            }
            return sum;
        }

        int bitsOfAll() {
            int sum = 0;
            for (int row = 0; row < ROWS; row++) {
                sum += bitsOfRow(row);
            }
            return sum;
        }

        private static int bitsOfCode(int code) {
            int bits = 1;
            for (int rest = code + 1; rest > 1; rest >>= 1) {
                bits += 2;
            }
            return bits;
        }
    }

    /** What the pages that were taken have made known. */
    private static final class Known {
        private static final int LETTERS_AND_NONE = 17;

        // By the name of the box around, and by NAMES for none.
        private final FrontList[] names = new FrontList[NAMES + 1];
        final FrontList words = new FrontList(MOST_PAGES * MOST_WORDS + MOST_WORDS);
        private final Row sets = new Row(NAMES);
        private final Row values = new Row(NAMES * KEYS);

        Known() {
            for (int around = 0; around < names.length; around++) {
                names[around] = new FrontList(NAMES);
            }
            sets.fill(0);
            values.fill(ABSENT);
        }

        void forget() {
            for (int around = 0; around < names.length; around++) {
                names[around].clear();
            }
            words.clear();
            sets.fill(0);
            values.fill(ABSENT);
        }

        FrontList namesIn(int around) {
            return names[around >= 0 && around < names.length ? around : names.length - 1];
        }

        int valueOf(int name, int key) {
            return values.at(name * KEYS + key);
        }

        /** Packs a page behind those that were taken, and learns what it makes known. */
        void take(Page page, Codes codes) {
            codes.clear();
            codes.steps.become(page.steps);
            for (int box = 0; box < page.boxNames.size(); box++) {
                takeName(page, box, codes.names);
                takeNotes(page, box, codes.notes);
            }
            for (int word = 0; word < page.wordPlaces.size(); word++) {
                takeWord(page, word, codes.words);
            }
        }

        private void takeName(Page page, int box, Row codes) {
            int around = page.boxesAround.at(box);
            FrontList list = namesIn(around == ABSENT ? NAMES : page.boxNames.at(around));
            int name = page.boxNames.at(box);
            int place = list.placeOf(name);
            codes.add(place == ABSENT ? list.size() + name : place);
            list.meet(name);
        }

        private void takeNotes(Page page, int box, Row codes) {
            int name = page.boxNames.at(box);
            int set = page.keySet(box);
            codes.add(set == sets.at(name) ? 0 : set + 1);
            sets.put(name, set);
            for (int key = 0; key < KEYS; key++) {
                if ((set >> key & 1) == 1) {
                    takeValue(name, key, page.valueOfKey(box, key), codes);
                }
            }
            int keys = Integer.bitCount(set);
            if (keys >= 2) {
                codes.add(page.orderOfKeys(box, keys));
            }
        }

        private void takeValue(int name, int key, int value, Row codes) {
            int difference = value - Math.max(valueOf(name, key), 0);
            codes.add(difference < 0 ? difference + 10 : difference);
            values.put(name * KEYS + key, value);
        }

        private void takeWord(Page page, int word, Row codes) {
            int start = page.wordPlaces.at(word);
            int end = start + page.wordLengths.at(word);
            long asNumber = 0;
            for (int place = start; place < end; place++) {
                asNumber = asNumber * LETTERS_AND_NONE + page.letters.at(place) - 'g' + 1;
            }
            int rank = words.placeOf(asNumber);
            if (rank == ABSENT) {
                codes.add(words.size());
                codes.add(end - start);
                for (int place = start; place < end; place++) {
                    codes.add(page.letters.at(place) - 'g');
                }
            } else {
                codes.add(rank);
            }
            words.meet(asNumber);
        }
    }

    /** All that undo and the snapshot bring back: the rules and the pages. */
    private static final class State {
        private final Row rules = new Row(NAMES * NAMES);
        private final Page[] pages = new Page[MOST_PAGES];
        int pageCount;

        State() {
            rules.fill(0);
            for (int place = 0; place < pages.length; place++) {
                pages[place] = new Page();
            }
        }

        void become(State other) {
            rules.become(other.rules);
            pageCount = 0;
            for (int page = 0; page < other.pageCount; page++) {
                addPage(other.pageAt(page));
            }
        }

        boolean ends(int name, int ended) {
            return rules.at(name * NAMES + ended) == 1;
        }

        void setEnds(int name, int ended, boolean is) {
            rules.put(name * NAMES + ended, is ? 1 : 0);
        }

        int ruleCount() {
            return rules.countOf(1);
        }

        boolean hasPage(int page) {
            return page >= 0 && page < pageCount;
        }

        Page pageAt(int page) {
            return pages[page >= 0 && page < pages.length ? page : 0];
        }

        void addPage(Page page) {
            if (pageCount >= 0 && pageCount < pages.length) {
                pages[pageCount].become(page);
                pageCount++;
            }
        }

        void bringToFront(int page) {
            if (page < 0 || page >= pages.length) {
                return;
            }
            Page chosen = pages[page];
            for (int place = page; place > 0; place--) {
                pages[place] = pages[place - 1];
            }
            pages[0] = chosen;
        }

        int letterCount() {
            int sum = 0;
            for (int page = 0; page < pageCount; page++) {
                sum += pageAt(page).letters.size();
            }
            return sum;
        }

        int stepCount(int step) {
            int sum = 0;
            for (int page = 0; page < pageCount; page++) {
                sum += pageAt(page).steps.countOf(step);
            }
            return sum;
        }
    }
}
