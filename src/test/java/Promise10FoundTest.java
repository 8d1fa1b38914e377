/** Promise 10, found: "The i-th PICTURE that it finds, by numbers. NONE if there is none such." */
public final class Promise10FoundTest {
    private static final Checks C = new Checks("Promise10FoundTest");

    public static void main(String[] args) {
        byNumbers();
        allForty();
        noneSuch();
        noneAtAll();
        otherWordOrMinute();
        asAtThatMinute();
        C.finish();
    }

    private static void byNumbers() {
        Run x = new Run(C, "The i-th PICTURE that it finds, by numbers");
        x.chainOfWords(2);
        x.pictures(5);
        x.yes("caption(4, 0, true)");
        x.yes("caption(1, 1, true)");
        x.yes("caption(3, 1, true)");
        x.due("found(0, 0, false, 0)", 1);
        x.due("found(0, 0, false, 1)", 3);
        x.due("found(0, 0, false, 2)", 4);
        x.due("found(1, 0, false, 0)", 1);
        x.due("found(1, 0, false, 1)", 3);
    }

    private static void allForty() {
        Run x = new Run(C, "The i-th PICTURE that it finds, all 40");
        x.words(1);
        x.pictures(40);
        for (int i = 39; i >= 0; i--) {
            x.yes("caption(" + i + ", 0, true)");
        }
        for (int i = 0; i < 40; i++) {
            x.due("found(0, 0, false, " + i + ")", i);
        }
        x.none("found(0, 0, false, 40)");
        x.none("found(0, 0, false, -1)");
    }

    private static void noneSuch() {
        Run x = new Run(C, "NONE if there is none such: i");
        x.words(1);
        x.pictures(3);
        x.yes("caption(0, 0, true)");
        x.yes("caption(2, 0, true)");
        x.due("found(0, 0, false, 1)", 2);
        x.none("found(0, 0, false, 2)");
        x.none("found(0, 0, true, 2)");
        x.none("found(0, 0, false, -1)");
        x.none("found(0, 0, false, MIN)");
        x.none("found(0, 0, false, MAX)");
    }

    private static void noneAtAll() {
        Run x = new Run(C, "NONE if there is none such: nothing is found");
        x.words(2);
        x.none("found(0, 0, false, 0)");
        x.pictures(1);
        x.none("found(0, 0, true, 0)");
        x.yes("caption(0, 0, true)");
        x.due("found(0, 0, true, 0)", 0);
        x.none("found(1, 0, true, 0)");
    }

    private static void otherWordOrMinute() {
        Run x = new Run(C, "NONE if there is none such: WORD, MINUTE");
        x.words(1);
        x.pictures(1);
        x.yes("caption(0, 0, true)");
        x.due("found(0, 0, false, 0)", 0);
        x.none("found(1, 0, false, 0)");
        x.none("found(-1, 0, false, 0)");
        x.none("found(40, 0, false, 0)");
        x.none("found(MIN, 0, false, 0)");
        x.none("found(MAX, 0, true, 0)");
        x.none("found(0, 1, false, 0)");
        x.none("found(0, -1, false, 0)");
        x.yes("minute(100000)");
        x.due("found(0, 100000, false, 0)", 0);
        x.none("found(0, 100001, false, 0)");
        x.none("found(0, MIN, false, 0)");
        x.none("found(0, MAX, true, 0)");
    }

    private static void asAtThatMinute() {
        Run x = new Run(C, "that it finds, as at that MINUTE, OLD or not");
        x.words(1);
        x.pictures(2);
        x.yes("caption(0, 0, true)");
        x.yes("minute(5)");
        x.yes("caption(0, 0, false)");
        x.yes("caption(1, 0, true)");
        x.due("found(0, 4, false, 0)", 0);
        x.none("found(0, 4, false, 1)");
        x.due("found(0, 5, false, 0)", 1);
        x.none("found(0, 5, false, 1)");
        x.due("found(0, 5, true, 0)", 0);
        x.due("found(0, 5, true, 1)", 1);
    }
}
