/** Promise 2, minute: "The clock goes on to a MINUTE: true. False for others, or an earlier one." */
public final class Promise02MinuteTest {
    private static final Checks C = new Checks("Promise02MinuteTest");

    public static void main(String[] args) {
        goesOn();
        others();
        lastMinute();
        earlier();
        C.finish();
    }

    private static void goesOn() {
        Run x = new Run(C, "The clock goes on to a MINUTE: true");
        x.yes("minute(0)");
        x.due("about(2)", 0);
        x.yes("minute(1)");
        x.due("about(2)", 1);
        x.yes("minute(70000)");
        x.due("about(2)", 70000);
        x.due("known(0, 70000, true)", 1);
    }

    private static void others() {
        Run x = new Run(C, "False for others: MINUTES 0 .. 100000");
        x.no("minute(-1)");
        x.no("minute(100001)");
        x.no("minute(MIN)");
        x.no("minute(MAX)");
        x.yes("minute(5)");
        x.no("minute(-1)");
        x.no("minute(100001)");
        x.no("minute(MIN)");
        x.no("minute(MAX)");
        x.due("about(2)", 5);
    }

    private static void lastMinute() {
        Run x = new Run(C, "The clock goes on to the last MINUTE, 100000");
        x.yes("minute(99999)");
        x.yes("minute(100000)");
        x.due("about(2)", 100000);
        x.no("minute(100001)");
        x.no("minute(99999)");
        x.yes("minute(100000)");
        x.due("about(2)", 100000);
    }

    private static void earlier() {
        Run x = new Run(C, "False for an earlier one");
        x.yes("minute(7)");
        x.no("minute(6)");
        x.no("minute(0)");
        x.due("about(2)", 7);
        x.yes("minute(7)");
        x.due("about(2)", 7);
        x.yes("minute(8)");
        x.no("minute(7)");
        x.due("about(2)", 8);
    }
}
