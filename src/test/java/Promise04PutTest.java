/**
 * Promise 4, put: "A WORD lies in another one (NONE: in none) from now on: true. False: no such ones, it would be below
 * itself or in itself, or there were 100 puttings."
 */
public final class Promise04PutTest {
    private static final Checks C = new Checks("Promise04PutTest");

    public static void main(String[] args) {
        inAnother();
        inNone();
        fromNowOn();
        noSuchWord();
        noSuchOneToLieIn();
        inItself();
        belowItself();
        farBelowItself();
        belowItselfOnlyOnce();
        hundredPuttings();
        refusedOnesAreNoPuttings();
        hundredOfAllWords();
        C.finish();
    }

    private static void inAnother() {
        Run x = new Run(C, "A WORD lies in another one: true");
        x.words(3);
        x.yes("put(2, 0)");
        x.due("within(2, 0)", 0);
        x.yes("put(2, 1)");
        x.due("within(2, 0)", 1);
        x.yes("put(2, 1)");
        x.due("within(2, 0)", 1);
    }

    private static void inNone() {
        Run x = new Run(C, "A WORD lies in none: true");
        x.chainOfWords(2);
        x.yes("put(1, -1)");
        x.due("within(1, 0)", -1);
        x.yes("put(1, -1)");
        x.due("within(1, 0)", -1);
    }

    private static void fromNowOn() {
        Run x = new Run(C, "from now on");
        x.words(2);
        x.yes("minute(5)");
        x.yes("put(1, 0)");
        x.due("within(1, 4)", -1);
        x.due("within(1, 5)", 0);
        x.yes("minute(6)");
        x.due("within(1, 6)", 0);
        x.due("within(1, 4)", -1);
        x.yes("put(1, -1)");
        x.due("within(1, 5)", 0);
        x.due("within(1, 6)", -1);
    }

    private static void noSuchWord() {
        Run x = new Run(C, "False: no such ones, of the WORD");
        x.no("put(0, -1)");
        x.words(2);
        x.no("put(2, 0)");
        x.no("put(2, -1)");
        x.no("put(-1, 0)");
        x.no("put(-1, -1)");
        x.no("put(MIN, 0)");
        x.no("put(MAX, 0)");
        x.no("put(40, -1)");
        x.yes("put(1, 0)");
        x.yes("put(0, -1)");
    }

    private static void noSuchOneToLieIn() {
        Run x = new Run(C, "False: no such ones, of that in which it lies");
        x.words(2);
        x.no("put(0, 2)");
        x.no("put(0, -2)");
        x.no("put(0, 40)");
        x.no("put(0, MIN)");
        x.no("put(0, MAX)");
        x.due("within(0, 0)", -1);
        x.yes("put(0, 1)");
        x.due("within(0, 0)", 1);
    }

    private static void inItself() {
        Run x = new Run(C, "False: it would be in itself");
        x.chainOfWords(2);
        x.no("put(0, 0)");
        x.no("put(1, 1)");
        x.due("within(0, 0)", -1);
        x.due("within(1, 0)", 0);
    }

    private static void belowItself() {
        Run x = new Run(C, "False: it would be below itself");
        x.chainOfWords(3);
        x.due("word(0)", 3);
        x.no("put(0, 1)");
        x.no("put(0, 2)");
        x.no("put(0, 3)");
        x.no("put(1, 2)");
        x.yes("put(1, 3)");
        x.no("put(3, 2)");
        x.yes("put(2, 0)");
        x.yes("put(2, -1)");
        x.yes("put(0, 2)");
        x.due("within(0, 0)", 2);
    }

    private static void farBelowItself() {
        Run x = new Run(C, "False: it would be below itself, through 40 WORDS");
        x.chainOfWords(40);
        x.no("put(0, 39)");
        x.no("put(0, 38)");
        x.no("put(38, 39)");
        x.yes("put(39, 0)");
        x.no("put(0, 39)");
        x.yes("put(39, -1)");
        x.yes("put(0, 39)");
        x.no("put(39, 38)");
    }

    private static void belowItselfOnlyOnce() {
        Run x = new Run(C, "below itself as it lies by now, not as it lay");
        x.chainOfWords(2);
        x.yes("minute(3)");
        x.no("put(0, 1)");
        x.yes("put(1, -1)");
        x.yes("put(0, 1)");
        x.due("within(1, 2)", 0);
        x.due("within(0, 2)", -1);
        x.due("within(0, 3)", 1);
        x.no("put(1, 0)");
    }

    private static void hundredPuttings() {
        Run x = new Run(C, "False: there were 100 puttings");
        x.words(2);
        for (int i = 0; i < 99; i++) {
            x.yes("put(1, " + (i % 2 - 1) + ")");
        }
        x.due("within(1, 0)", -1);
        x.yes("put(1, 0)");
        x.due("within(1, 0)", 0);
        x.no("put(1, -1)");
        x.no("put(1, 0)");
        x.no("put(0, -1)");
        x.due("within(1, 0)", 0);
        x.yes("minute(1)");
        x.no("put(1, -1)");
        x.due("word(1)", 2);
        x.no("put(2, -1)");
        x.due("within(2, 1)", 1);
    }

    private static void refusedOnesAreNoPuttings() {
        Run x = new Run(C, "there were 100 puttings: those that were refused are none");
        x.words(2);
        for (int i = 0; i < 50; i++) {
            x.yes("put(1, 0)");
            x.due("put(0, 1)", 0);
            x.due("put(0, 0)", 0);
            x.due("put(0, 2)", 0);
            x.due("put(2, 0)", 0);
            x.yes("put(1, -1)");
        }
        x.no("put(1, 0)");
    }

    private static void hundredOfAllWords() {
        Run x = new Run(C, "there were 100 puttings, of all WORDS together");
        x.words(40);
        for (int i = 0; i < 100; i++) {
            x.yes("put(" + i % 40 + ", -1)");
        }
        x.no("put(39, 0)");
        x.no("put(0, 39)");
    }
}
