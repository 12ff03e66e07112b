/** What the tests by hand have in common: one object, what is typed into it, and the answers that are due. */
abstract class Checked {
    // Told anew here, so that the class cannot change what is due.
    static final int UNKNOWN = -1;
    static final int BAD_VALUE = -2;
    static final int FULL = -3;
    static final int NOT_POSSIBLE = -4;
    static final int NONE = -5;

    static int wrong = 0;
    static boolean quiet = false;
    static String about = "";
    static Pages x = new Pages();

    /** A new object; the rule "ba" is "b ends a". */
    static void fresh(String... rules) {
        x = new Pages();
        for (int i = 0; i < rules.length; i++) {
            due("rule " + rules[i], x.rule(rules[i].charAt(0) - 'a', rules[i].charAt(1) - 'a', true), i + 1);
        }
    }

    static void due(String call, int got, int want) {
        if (got != want) {
            wrong++;
            if (!quiet) {
                System.out.println(about + ": " + call + " answered " + got + ", due is " + want);
            }
        }
    }

    static void write(String text) {
        x.clearText();
        for (int i = 0; i < text.length(); i++) {
            due("type in " + text, x.type(text.charAt(i)), i + 1);
        }
    }

    static int pack(String text) {
        write(text);
        return x.pack();
    }

    static void fault(String text, int place, int kind, int cause) {
        write(text);
        due("fault(0) of " + text, x.fault(0), place);
        due("fault(1) of " + text, x.fault(1), kind);
        due("fault(2) of " + text, x.fault(2), cause);
        due("pack() of " + text, x.pack(), -100 - place);
        due("wouldTake(true) of " + text, x.wouldTake(true), -100 - place);
        due("wouldTake(false) of " + text, x.wouldTake(false), -100 - place);
    }

    static void noFault(String text) {
        write(text);
        for (int what = 0; what <= 2; what++) {
            due("fault(" + what + ") of " + text, x.fault(what), NONE);
        }
    }

    /** All of a row, and its end. */
    static void row(int page, int row, int... codes) {
        for (int place = 0; place < codes.length; place++) {
            due("code(" + page + ", " + row + ", " + place + ")", x.code(page, row, place), codes[place]);
        }
        due("the end of row " + row + " of page " + page, x.code(page, row, codes.length), NONE);
    }

    static void textOf(int page, String text) {
        for (int place = 0; place < text.length(); place++) {
            due("charAt(" + page + ", " + place + ")", x.charAt(page, place), text.charAt(place));
        }
        due("the end of page " + page, x.charAt(page, text.length()), NONE);
    }

    /** The answers of path for each what, from 0. */
    static void path(int page, String path, int... answers) {
        write(path);
        for (int what = 0; what < answers.length; what++) {
            due("path(" + page + ", " + what + ") of " + path, x.path(page, what), answers[what]);
        }
    }

    static void pathFault(String path, int place) {
        path(0, path, -100 - place, -100 - place, -100 - place, -100 - place, -100 - place, -100 - place);
    }

    static void leadsToNone(String path) {
        path(0, path, NONE, NONE, NONE, NONE, NONE, NONE);
    }
}
