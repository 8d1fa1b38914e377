/** Promise 14, leave: "A PERSON's LEAVE from now on: true. False: none such, or there were 100 of these." */
public final class Promise14LeaveTest {
    private static final Checks C = new Checks("Promise14LeaveTest");

    public static void main(String[] args) {
        fromNowOn();
        twiceAtOneMinute();
        noneSuch();
        hundred();
        refusedOnesAreNone();
        C.finish();
    }

    private static void fromNowOn() {
        Run x = new Run(C, "A PERSON's LEAVE from now on: true");
        x.due("picture(0, 0, 0, 8)", 0);
        x.uses("0, 0, 0, 1, -1", 0, -1);
        x.yes("minute(5)");
        x.yes("leave(3, false)");
        x.due("known(3, 4, true)", 1);
        x.due("known(3, 5, true)", 0);
        x.due("known(2, 5, true)", 1);
        x.due("known(4, 5, true)", 1);
        x.uses("0, 0, 0, 1, -1", 3, 3);
        x.yes("minute(6)");
        x.yes("leave(3, true)");
        x.due("known(3, 5, true)", 0);
        x.due("known(3, 6, true)", 1);
        x.uses("0, 0, 0, 1, -1", 0, -1);
    }

    private static void twiceAtOneMinute() {
        Run x = new Run(C, "A PERSON's LEAVE, told twice at one MINUTE, and told as it is");
        x.yes("leave(0, true)");
        x.due("known(0, 0, true)", 1);
        x.yes("leave(0, false)");
        x.yes("leave(0, false)");
        x.due("known(0, 0, true)", 0);
        x.yes("leave(0, true)");
        x.due("known(0, 0, true)", 1);
    }

    private static void noneSuch() {
        Run x = new Run(C, "False: none such");
        x.no("leave(-1, false)");
        x.no("leave(16, false)");
        x.no("leave(MIN, false)");
        x.no("leave(MAX, false)");
        x.no("leave(-1, true)");
        x.no("leave(16, true)");
        x.yes("leave(0, false)");
        x.yes("leave(15, false)");
        x.due("known(0, 0, true)", 0);
        x.due("known(15, 0, true)", 0);
        x.due("known(14, 0, true)", 1);
    }

    private static void hundred() {
        Run x = new Run(C, "False: there were 100 of these, of all PERSONS together");
        x.due("picture(0, 0, 0, 65535)", 0);
        for (int i = 0; i < 99; i++) {
            x.yes("leave(" + i % 16 + ", true)");
        }
        x.yes("leave(9, false)");
        x.due("known(9, 0, true)", 0);
        x.no("leave(9, true)");
        x.no("leave(9, false)");
        x.no("leave(0, false)");
        x.uses("0, 0, 0, 1, -1", 3, 9);
        x.yes("minute(1)");
        x.no("leave(9, true)");
        x.due("known(9, 1, true)", 0);
        x.yes("embargo(0, 0)");
    }

    private static void refusedOnesAreNone() {
        Run x = new Run(C, "there were 100 of these: those that were refused are none");
        for (int i = 0; i < 100; i++) {
            x.due("leave(16, false)", 0);
            x.due("leave(-1, true)", 0);
            x.yes("leave(0, false)");
        }
        x.no("leave(0, true)");
    }
}
