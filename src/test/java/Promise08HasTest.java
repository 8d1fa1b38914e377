/**
 * Promise 8, has: "Whether a PICTURE HAS (old false), HAD a WORD, or one BELOW it, as at a MINUTE (0 to the clock's; 1,
 * 0). NONE for others."
 */
public final class Promise08HasTest {
    private static final Checks C = new Checks("Promise08HasTest");

    public static void main(String[] args) {
        gotByThenAndNotLostSince();
        gotAndLostAtOneMinute();
        oneBelow();
        belowThroughForty();
        belowAsAtThatMinute();
        aboveOnlyLater();
        otherPicture();
        otherWord();
        otherMinute();
        aheadOfItsMaking();
        C.finish();
    }

    private static void gotByThenAndNotLostSince() {
        Run x = new Run(C, "HAS: got by then, and not lost since; HAD: got by then");
        x.words(2);
        x.pictures(2);
        x.yes("minute(10)");
        x.yes("caption(0, 0, true)");
        x.yes("minute(20)");
        x.yes("caption(0, 0, false)");
        x.yes("minute(30)");
        x.yes("caption(0, 0, true)");
        x.yes("minute(40)");
        int[] minutes = {0, 9, 10, 19, 20, 29, 30, 40};
        int[] has = {0, 0, 1, 1, 0, 0, 1, 1};
        int[] had = {0, 0, 1, 1, 1, 1, 1, 1};
        for (int i = 0; i < minutes.length; i++) {
            x.due("has(0, 0, " + minutes[i] + ", false)", has[i]);
            x.due("has(0, 0, " + minutes[i] + ", true)", had[i]);
            x.due("has(1, 0, " + minutes[i] + ", true)", 0);
            x.due("has(0, 1, " + minutes[i] + ", true)", 0);
        }
    }

    private static void gotAndLostAtOneMinute() {
        Run x = new Run(C, "HAS, HAD: got and lost at one MINUTE");
        x.words(1);
        x.pictures(1);
        x.yes("minute(3)");
        x.yes("caption(0, 0, true)");
        x.yes("caption(0, 0, false)");
        x.due("has(0, 0, 3, false)", 0);
        x.due("has(0, 0, 3, true)", 1);
        x.due("has(0, 0, 2, true)", 0);
        x.yes("caption(0, 0, true)");
        x.due("has(0, 0, 3, false)", 1);
    }

    private static void oneBelow() {
        Run x = new Run(C, "a WORD, or one BELOW it");
        x.chainOfWords(3);
        x.due("word(0)", 3);
        x.pictures(1);
        x.yes("caption(0, 1, true)");
        x.due("has(0, 1, 0, false)", 1);
        x.due("has(0, 0, 0, false)", 1);
        x.due("has(0, 2, 0, false)", 0);
        x.due("has(0, 3, 0, false)", 0);
        x.yes("caption(0, 1, false)");
        x.due("has(0, 0, 0, false)", 0);
        x.due("has(0, 0, 0, true)", 1);
        x.due("has(0, 2, 0, true)", 0);
    }

    private static void belowThroughForty() {
        Run x = new Run(C, "one BELOW it, through 40 WORDS, of PICTURE 39");
        x.chainOfWords(40);
        x.pictures(40);
        x.yes("caption(39, 39, true)");
        for (int word = 0; word < 40; word++) {
            x.due("has(39, " + word + ", 0, false)", 1);
        }
        x.due("has(38, 0, 0, false)", 0);
        x.yes("put(20, -1)");
        x.due("has(39, 20, 0, false)", 1);
        x.due("has(39, 19, 0, false)", 0);
    }

    private static void belowAsAtThatMinute() {
        Run x = new Run(C, "BELOW as at that MINUTE");
        x.words(3);
        x.pictures(1);
        x.yes("put(2, 0)");
        x.yes("caption(0, 2, true)");
        x.yes("minute(5)");
        x.yes("put(2, 1)");
        x.yes("caption(0, 2, false)");
        x.yes("minute(6)");
        x.due("has(0, 0, 4, false)", 1);
        x.due("has(0, 1, 4, false)", 0);
        x.due("has(0, 0, 5, true)", 0);
        x.due("has(0, 1, 5, true)", 1);
        x.due("has(0, 1, 5, false)", 0);
        x.due("has(0, 0, 4, true)", 1);
        x.due("has(0, 1, 4, true)", 0);
    }

    private static void aboveOnlyLater() {
        Run x = new Run(C, "BELOW as at that MINUTE: WORD 0 in another one, asked to and fro");
        x.words(3);
        x.pictures(1);
        x.yes("caption(0, 0, true)");
        x.yes("minute(5)");
        x.yes("put(0, 2)");
        x.due("has(0, 2, 5, false)", 1);
        x.due("has(0, 2, 4, false)", 0);
        x.due("has(0, 2, 5, true)", 1);
        x.due("has(0, 2, 4, true)", 0);
    }

    private static void otherPicture() {
        Run x = new Run(C, "NONE for others: no such PICTURE");
        x.words(1);
        x.none("has(0, 0, 0, false)");
        x.pictures(2);
        x.due("has(1, 0, 0, false)", 0);
        x.none("has(2, 0, 0, false)");
        x.none("has(2, 0, 0, true)");
        x.none("has(-1, 0, 0, false)");
        x.none("has(40, 0, 0, false)");
        x.none("has(MIN, 0, 0, false)");
        x.none("has(MAX, 0, 0, true)");
    }

    private static void otherWord() {
        Run x = new Run(C, "NONE for others: no such WORD");
        x.pictures(1);
        x.none("has(0, 0, 0, false)");
        x.words(2);
        x.due("has(0, 1, 0, false)", 0);
        x.none("has(0, 2, 0, false)");
        x.none("has(0, 2, 0, true)");
        x.none("has(0, -1, 0, false)");
        x.none("has(0, 40, 0, false)");
        x.none("has(0, MIN, 0, false)");
        x.none("has(0, MAX, 0, true)");
    }

    private static void otherMinute() {
        Run x = new Run(C, "NONE for others: a MINUTE (0 to the clock's)");
        x.words(1);
        x.pictures(1);
        x.yes("caption(0, 0, true)");
        x.due("has(0, 0, 0, false)", 1);
        x.none("has(0, 0, 1, false)");
        x.none("has(0, 0, -1, false)");
        x.yes("minute(100000)");
        x.due("has(0, 0, 100000, false)", 1);
        x.none("has(0, 0, 100001, false)");
        x.none("has(0, 0, -1, true)");
        x.none("has(0, 0, MIN, false)");
        x.none("has(0, 0, MAX, true)");
    }

    private static void aheadOfItsMaking() {
        Run x = new Run(C, "as at a MINUTE at which PICTURE and WORD were not there: 0");
        x.yes("minute(5)");
        x.words(1);
        x.pictures(1);
        x.yes("caption(0, 0, true)");
        x.due("has(0, 0, 4, false)", 0);
        x.due("has(0, 0, 4, true)", 0);
        x.due("has(0, 0, 0, true)", 0);
        x.due("has(0, 0, 5, true)", 1);
    }
}
