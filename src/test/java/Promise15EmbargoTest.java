/** Promise 15, embargo: "A PICTURE's EMBARGO from now on: true. False for others, or if there were 100 of these." */
public final class Promise15EmbargoTest {
    private static final Checks C = new Checks("Promise15EmbargoTest");

    public static void main(String[] args) {
        fromNowOn();
        moved();
        otherPicture();
        otherMinute();
        hundred();
        refusedOnesAreNone();
        C.finish();
    }

    private static void fromNowOn() {
        Run x = new Run(C, "A PICTURE's EMBARGO from now on: true");
        x.pictures(2);
        x.yes("minute(5)");
        x.yes("embargo(0, 8)");
        x.due("known(0, 4, false)", 0);
        x.due("known(0, 5, false)", 8);
        x.due("known(1, 5, false)", 0);
        x.uses("0, 0, 0, 1, -1", 1, -1);
        x.uses("1, 0, 0, 1, -1", 0, -1);
    }

    private static void moved() {
        Run x = new Run(C, "it may be moved: as known at a MINUTE the one that was told latest by then");
        x.pictures(1);
        x.yes("minute(5)");
        x.yes("embargo(0, 8)");
        x.yes("embargo(0, 7)");
        x.due("known(0, 5, false)", 7);
        x.yes("minute(6)");
        x.yes("embargo(0, 3)");
        x.due("known(0, 5, false)", 7);
        x.due("known(0, 6, false)", 3);
        x.uses("0, 0, 0, 1, -1", 0, -1);
        x.yes("embargo(0, 0)");
        x.due("known(0, 6, false)", 0);
    }

    private static void otherPicture() {
        Run x = new Run(C, "False for others: no such PICTURE");
        x.no("embargo(0, 5)");
        x.pictures(2);
        x.no("embargo(2, 5)");
        x.no("embargo(-1, 5)");
        x.no("embargo(40, 5)");
        x.no("embargo(MIN, 5)");
        x.no("embargo(MAX, 5)");
        x.yes("embargo(1, 5)");
        x.due("known(1, 0, false)", 5);
        x.due("known(0, 0, false)", 0);
    }

    private static void otherMinute() {
        Run x = new Run(C, "False for others: MINUTES 0 .. 100000");
        x.pictures(1);
        x.yes("minute(9)");
        x.no("embargo(0, -1)");
        x.no("embargo(0, 100001)");
        x.no("embargo(0, MIN)");
        x.no("embargo(0, MAX)");
        x.due("known(0, 9, false)", 0);
        x.yes("embargo(0, 100000)");
        x.due("known(0, 9, false)", 100000);
        x.no("embargo(0, -1)");
        x.no("embargo(0, 100001)");
        x.due("known(0, 9, false)", 100000);
        x.yes("embargo(0, 0)");
        x.due("known(0, 9, false)", 0);
    }

    private static void hundred() {
        Run x = new Run(C, "False if there were 100 of these, of all PICTURES together");
        x.pictures(2);
        for (int i = 0; i < 99; i++) {
            x.yes("embargo(0, " + i + ")");
        }
        x.yes("embargo(1, 7)");
        x.no("embargo(1, 8)");
        x.no("embargo(1, 7)");
        x.no("embargo(0, 0)");
        x.due("known(0, 0, false)", 98);
        x.due("known(1, 0, false)", 7);
        x.yes("minute(1)");
        x.no("embargo(0, 0)");
        x.yes("leave(0, true)");
    }

    private static void refusedOnesAreNone() {
        Run x = new Run(C, "if there were 100 of these: those that were refused are none");
        x.pictures(1);
        for (int i = 0; i < 100; i++) {
            x.due("embargo(0, -1)", 0);
            x.due("embargo(0, 100001)", 0);
            x.due("embargo(1, 0)", 0);
            x.yes("embargo(0, 4)");
        }
        x.no("embargo(0, 5)");
    }
}
