/** Promise 9, search: "How many PICTURES a SEARCH finds. NONE for others." */
public final class Promise09SearchTest {
    private static final Checks C = new Checks("Promise09SearchTest");

    public static void main(String[] args) {
        howMany();
        noneAndAll();
        thereByThen();
        oldOnes();
        belowAsAtThatMinute();
        otherWord();
        otherMinute();
        C.finish();
    }

    private static void howMany() {
        Run x = new Run(C, "How many PICTURES a SEARCH finds: a WORD that is it, or BELOW it; each counts once");
        x.chainOfWords(3);
        x.pictures(4);
        x.yes("caption(0, 0, true)");
        x.yes("caption(1, 1, true)");
        x.yes("caption(2, 2, true)");
        x.yes("caption(2, 1, true)");
        x.yes("caption(2, 0, true)");
        x.due("search(0, 0, false)", 3);
        x.due("search(1, 0, false)", 2);
        x.due("search(2, 0, false)", 1);
        x.yes("caption(2, 1, false)");
        x.due("search(1, 0, false)", 2);
    }

    private static void noneAndAll() {
        Run x = new Run(C, "How many PICTURES: none, and all 40");
        x.chainOfWords(40);
        x.due("search(0, 0, false)", 0);
        x.pictures(40);
        x.due("search(0, 0, false)", 0);
        x.due("search(39, 0, true)", 0);
        for (int i = 0; i < 40; i++) {
            x.yes("caption(" + i + ", 39, true)");
        }
        x.due("search(39, 0, false)", 40);
        x.due("search(0, 0, false)", 40);
        x.due("search(0, 0, true)", 40);
    }

    private static void thereByThen() {
        Run x = new Run(C, "PICTURES that were there by then");
        x.words(1);
        x.pictures(1);
        x.yes("caption(0, 0, true)");
        x.yes("minute(5)");
        x.due("picture(0, 0, 0, 0)", 1);
        x.yes("caption(1, 0, true)");
        x.due("search(0, 4, false)", 1);
        x.due("search(0, 4, true)", 1);
        x.due("search(0, 5, false)", 2);
    }

    private static void oldOnes() {
        Run x = new Run(C, "HAVE (or, OLD, HAD)");
        x.words(1);
        x.pictures(2);
        x.yes("caption(0, 0, true)");
        x.yes("caption(1, 0, true)");
        x.yes("minute(5)");
        x.yes("caption(0, 0, false)");
        x.due("search(0, 4, false)", 2);
        x.due("search(0, 5, false)", 1);
        x.due("search(0, 5, true)", 2);
    }

    private static void belowAsAtThatMinute() {
        Run x = new Run(C, "BELOW it as at that MINUTE");
        x.words(2);
        x.pictures(1);
        x.yes("caption(0, 1, true)");
        x.yes("minute(5)");
        x.yes("put(1, 0)");
        x.yes("minute(7)");
        x.yes("put(1, -1)");
        x.due("search(0, 4, false)", 0);
        x.due("search(0, 5, false)", 1);
        x.due("search(0, 6, true)", 1);
        x.due("search(0, 7, true)", 0);
        x.yes("caption(0, 0, true)");
        x.yes("put(0, 1)");
        x.yes("caption(0, 1, false)");
        x.due("search(1, 7, false)", 1);
        x.due("search(1, 6, false)", 1);
        x.yes("minute(8)");
        x.yes("put(0, -1)");
        x.due("search(1, 7, false)", 1);
        x.due("search(1, 8, false)", 0);
        x.due("search(1, 7, false)", 1);
    }

    private static void otherWord() {
        Run x = new Run(C, "NONE for others: no such WORD");
        x.none("search(0, 0, false)");
        x.words(2);
        x.due("search(1, 0, false)", 0);
        x.none("search(2, 0, false)");
        x.none("search(2, 0, true)");
        x.none("search(-1, 0, false)");
        x.none("search(40, 0, false)");
        x.none("search(MIN, 0, false)");
        x.none("search(MAX, 0, true)");
    }

    private static void otherMinute() {
        Run x = new Run(C, "NONE for others: no MINUTE that was");
        x.words(1);
        x.due("search(0, 0, false)", 0);
        x.none("search(0, 1, false)");
        x.none("search(0, -1, false)");
        x.yes("minute(100000)");
        x.due("search(0, 100000, false)", 0);
        x.none("search(0, 100001, false)");
        x.none("search(0, -1, true)");
        x.none("search(0, MIN, false)");
        x.none("search(0, MAX, true)");
    }
}
