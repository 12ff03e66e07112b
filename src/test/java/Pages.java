/** The class with its calls counted: the document promises nothing behind the 512th call of an object. */
final class Pages {
    private static final int MOST_CALLS = 512;

    private final UnmarkedPages pages = new UnmarkedPages();
    private int calls;

    private UnmarkedPages counted() {
        calls++;
        if (calls > MOST_CALLS) {
            throw new IllegalStateException("a test makes more than 512 calls of one object");
        }
        return pages;
    }

    int rule(int name, int ended, boolean is) {
        return counted().rule(name, ended, is);
    }

    int pack() {
        return counted().pack();
    }

    int unpackLast() {
        return counted().unpackLast();
    }

    int first(int page) {
        return counted().first(page);
    }

    int type(char character) {
        return counted().type(character);
    }

    int clearText() {
        return counted().clearText();
    }

    int fault(int what) {
        return counted().fault(what);
    }

    int undo() {
        return counted().undo();
    }

    int keep() {
        return counted().keep();
    }

    int restore() {
        return counted().restore();
    }

    int charAt(int page, int place) {
        return counted().charAt(page, place);
    }

    int code(int page, int row, int place) {
        return counted().code(page, row, place);
    }

    int bits(int page, int row) {
        return counted().bits(page, row);
    }

    int wouldTake(boolean alone) {
        return counted().wouldTake(alone);
    }

    int path(int page, int what) {
        return counted().path(page, what);
    }

    int known(int name, int rank) {
        return counted().known(name, rank);
    }

    int latest(int name, int key) {
        return counted().latest(name, key);
    }

    int count(int what) {
        return counted().count(what);
    }
}
