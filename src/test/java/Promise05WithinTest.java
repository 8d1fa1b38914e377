/**
 * Promise 5, within: "In which WORD one lies as at a MINUTE (0 to the clock's). NONE in none, and for others."
 */
public final class Promise05WithinTest {
    private static final Checks C = new Checks("Promise05WithinTest");

    public static void main(String[] args) {
        asAtAMinute();
        twiceAtOneMinute();
        zeroToTheClocks();
        lastMinute();
        inNone();
        noSuchWord();
        aheadOfItsMaking();
        C.finish();
    }

    private static void asAtAMinute() {
        Run x = new Run(C, "In which WORD one lies as at a MINUTE");
        x.words(2);
        x.due("word(0)", 2);
        x.yes("minute(10)");
        x.yes("put(2, 1)");
        x.yes("minute(20)");
        x.yes("put(2, -1)");
        x.yes("minute(30)");
        x.yes("put(2, 0)");
        x.yes("minute(40)");
        int[] minutes = {0, 9, 10, 19, 20, 29, 30, 40};
        int[] want = {0, 0, 1, 1, -1, -1, 0, 0};
        for (int i = 0; i < minutes.length; i++) {
            x.due("within(2, " + minutes[i] + ")", want[i]);
        }
    }

    private static void twiceAtOneMinute() {
        Run x = new Run(C, "In which WORD one lies, put twice at one MINUTE");
        x.words(3);
        x.yes("minute(4)");
        x.yes("put(2, 0)");
        x.yes("put(2, 1)");
        x.due("within(2, 4)", 1);
        x.due("within(2, 3)", -1);
        x.yes("put(2, 0)");
        x.due("within(2, 4)", 0);
    }

    private static void zeroToTheClocks() {
        Run x = new Run(C, "a MINUTE (0 to the clock's)");
        x.chainOfWords(2);
        x.due("within(1, 0)", 0);
        x.none("within(1, 1)");
        x.none("within(1, -1)");
        x.yes("minute(6)");
        x.due("within(1, 0)", 0);
        x.due("within(1, 6)", 0);
        x.none("within(1, 7)");
        x.none("within(1, -1)");
        x.none("within(1, MIN)");
        x.none("within(1, MAX)");
    }

    private static void lastMinute() {
        Run x = new Run(C, "a MINUTE (0 to the clock's), at the last one");
        x.chainOfWords(2);
        x.yes("minute(100000)");
        x.due("within(1, 100000)", 0);
        x.none("within(1, 100001)");
    }

    private static void inNone() {
        Run x = new Run(C, "NONE in none");
        x.words(1);
        x.due("within(0, 0)", -1);
        x.due("word(0)", 1);
        x.yes("put(1, -1)");
        x.due("within(1, 0)", -1);
    }

    private static void noSuchWord() {
        Run x = new Run(C, "NONE for others: no such WORD");
        x.none("within(0, 0)");
        x.chainOfWords(3);
        x.due("within(2, 0)", 1);
        x.none("within(3, 0)");
        x.none("within(-1, 0)");
        x.none("within(39, 0)");
        x.none("within(40, 0)");
        x.none("within(MIN, 0)");
        x.none("within(MAX, 0)");
    }

    private static void aheadOfItsMaking() {
        Run x = new Run(C, "as told at a MINUTE from that one on: a WORD that was told later lay in none");
        x.words(1);
        x.yes("minute(10)");
        x.due("word(0)", 1);
        x.due("within(1, 0)", -1);
        x.due("within(1, 9)", -1);
        x.due("within(1, 10)", 0);
        x.yes("minute(20)");
        x.yes("put(1, -1)");
        x.due("within(1, 9)", -1);
        x.due("within(1, 19)", 0);
        x.due("within(1, 20)", -1);
    }
}
