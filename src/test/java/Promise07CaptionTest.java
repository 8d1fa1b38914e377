/**
 * Promise 7, caption: "A PICTURE gets a WORD, or loses it, at the MINUTE at hand: true. False: no such ones, it HAS it
 * (HAS it not) now, or there were 200 of these."
 */
public final class Promise07CaptionTest {
    private static final Checks C = new Checks("Promise07CaptionTest");

    public static void main(String[] args) {
        getsAndLoses();
        atTheMinuteAtHand();
        noSuchPicture();
        noSuchWord();
        hasIt();
        hasItNot();
        oneBelowIsAnother();
        twoHundred();
        refusedOnesAreNone();
        twoHundredOfAll();
        C.finish();
    }

    private static void getsAndLoses() {
        Run x = new Run(C, "A PICTURE gets a WORD, or loses it: true");
        x.words(1);
        x.pictures(1);
        x.yes("caption(0, 0, true)");
        x.due("has(0, 0, 0, false)", 1);
        x.yes("caption(0, 0, false)");
        x.due("has(0, 0, 0, false)", 0);
        x.yes("caption(0, 0, true)");
        x.due("has(0, 0, 0, false)", 1);
    }

    private static void atTheMinuteAtHand() {
        Run x = new Run(C, "at the MINUTE at hand");
        x.words(1);
        x.pictures(1);
        x.yes("minute(5)");
        x.yes("caption(0, 0, true)");
        x.due("has(0, 0, 4, false)", 0);
        x.due("has(0, 0, 5, false)", 1);
        x.yes("minute(6)");
        x.yes("caption(0, 0, false)");
        x.due("has(0, 0, 5, false)", 1);
        x.due("has(0, 0, 6, false)", 0);
    }

    private static void noSuchPicture() {
        Run x = new Run(C, "False: no such ones, of the PICTURE");
        x.words(1);
        x.no("caption(0, 0, true)");
        x.pictures(2);
        x.no("caption(2, 0, true)");
        x.no("caption(-1, 0, true)");
        x.no("caption(40, 0, true)");
        x.no("caption(MIN, 0, true)");
        x.no("caption(MAX, 0, true)");
        x.no("caption(-1, 0, false)");
        x.yes("caption(1, 0, true)");
        x.due("search(0, 0, true)", 1);
    }

    private static void noSuchWord() {
        Run x = new Run(C, "False: no such ones, of the WORD");
        x.pictures(2);
        x.no("caption(0, 0, true)");
        x.words(2);
        x.no("caption(0, 2, true)");
        x.no("caption(0, -1, true)");
        x.no("caption(1, -1, true)");
        x.no("caption(0, 40, true)");
        x.no("caption(0, MIN, true)");
        x.no("caption(0, MAX, true)");
        x.no("caption(0, -1, false)");
        x.yes("caption(0, 1, true)");
        x.due("search(0, 0, true)", 0);
        x.due("search(1, 0, true)", 1);
    }

    private static void hasIt() {
        Run x = new Run(C, "False: it HAS it now");
        x.words(2);
        x.pictures(2);
        x.yes("caption(0, 0, true)");
        x.no("caption(0, 0, true)");
        x.yes("minute(3)");
        x.no("caption(0, 0, true)");
        x.yes("caption(0, 1, true)");
        x.yes("caption(1, 0, true)");
        x.yes("caption(0, 0, false)");
        x.yes("caption(0, 0, true)");
        x.no("caption(0, 0, true)");
    }

    private static void hasItNot() {
        Run x = new Run(C, "False: it HAS it not now");
        x.words(2);
        x.pictures(2);
        x.no("caption(0, 0, false)");
        x.yes("caption(0, 0, true)");
        x.no("caption(0, 1, false)");
        x.no("caption(1, 0, false)");
        x.yes("caption(0, 0, false)");
        x.no("caption(0, 0, false)");
        x.yes("minute(3)");
        x.no("caption(0, 0, false)");
        x.due("has(0, 0, 3, true)", 1);
    }

    private static void oneBelowIsAnother() {
        Run x = new Run(C, "it HAS it: the WORD itself, not one BELOW it");
        x.chainOfWords(3);
        x.pictures(1);
        x.yes("caption(0, 1, true)");
        x.no("caption(0, 0, false)");
        x.no("caption(0, 2, false)");
        x.yes("caption(0, 0, true)");
        x.yes("caption(0, 2, true)");
        x.yes("caption(0, 1, false)");
        x.due("has(0, 1, 0, false)", 1);
    }

    private static void twoHundred() {
        Run x = new Run(C, "False: there were 200 of these");
        x.words(2);
        x.pictures(2);
        for (int i = 0; i < 199; i++) {
            x.yes("caption(0, 0, " + (i % 2 == 0) + ")");
        }
        x.yes("caption(1, 1, true)");
        x.no("caption(0, 0, false)");
        x.no("caption(1, 0, true)");
        x.no("caption(1, 1, false)");
        x.no("caption(1, 1, true)");
        x.due("has(0, 0, 0, false)", 1);
        x.due("has(1, 1, 0, false)", 1);
        x.due("has(1, 0, 0, true)", 0);
        x.yes("minute(1)");
        x.no("caption(0, 0, false)");
    }

    private static void refusedOnesAreNone() {
        Run x = new Run(C, "there were 200 of these: those that were refused are none");
        x.words(1);
        x.pictures(1);
        for (int i = 0; i < 200; i++) {
            x.yes("caption(0, 0, " + (i % 2 == 0) + ")");
            if (i % 4 == 0) {
                x.due("caption(0, 0, true)", 0);
                x.due("caption(0, 1, true)", 0);
                x.due("caption(1, 0, true)", 0);
            }
            if (i % 4 == 1) {
                x.due("caption(0, 0, false)", 0);
            }
        }
        x.no("caption(0, 0, true)");
    }

    private static void twoHundredOfAll() {
        Run x = new Run(C, "there were 200 of these, of all PICTURES and WORDS together");
        x.words(40);
        x.pictures(40);
        for (int i = 0; i < 200; i++) {
            x.yes("caption(" + i % 40 + ", " + (i + i / 40) % 40 + ", true)");
        }
        x.no("caption(39, 0, false)");
        x.no("caption(39, 20, true)");
        x.due("has(39, 39, 0, false)", 1);
        x.due("has(39, 3, 0, false)", 1);
        x.due("has(39, 4, 0, false)", 0);
    }
}
