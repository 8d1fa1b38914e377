/** Promise 29, printed: "The SALE to which a PRINTING was led. NONE: it is a CLAIM, and for others." */
public final class Promise29PrintedTest {
    private static final Checks C = new Checks("Promise29PrintedTest");

    public static void main(String[] args) {
        ledTo();
        aClaim();
        whatWasLedStays();
        others();
        lastOfSixty();
        C.finish();
    }

    private static void ledTo() {
        Run x = new Run(C, "The SALE to which a PRINTING was led");
        x.pictures(1);
        x.due("sale(0, 0, 0, 1, -1, -1)", 0);
        x.due("sale(0, 1, 0, 1, -1, -1)", 1);
        x.due("print(0, 1, 0, 1)", 0);
        x.due("print(0, 0, 0, 1)", 1);
        x.due("printed(0)", 1);
        x.due("printed(1)", 0);
        x.due("saleOf(0, 10)", 1);
        x.due("saleOf(1, 10)", 0);
    }

    private static void aClaim() {
        Run x = new Run(C, "NONE: it is a CLAIM, and stays one");
        x.pictures(1);
        x.due("print(0, 0, 0, 1)", 0);
        x.due("printed(0)", -1);
        x.due("about(5)", 1);
        x.due("sale(0, 0, 0, 1, -1, -1)", 0);
        x.due("printed(0)", -1);
        x.due("about(5)", 1);
    }

    private static void whatWasLedStays() {
        Run x = new Run(C, "What was led stays, also if the SALE is STRUCK");
        x.pictures(2);
        x.due("sale(0, 0, 0, 1, -1, -1)", 0);
        x.due("print(1, 0, 0, 1)", 0);
        x.yes("strike(0)");
        x.due("printed(0)", 0);
        x.due("saleOf(0, 10)", 0);
        x.due("about(5)", 0);
        x.yes("limit(0)");
        x.yes("minute(9)");
        x.due("printed(0)", 0);
        x.due("about(4)", 1);
    }

    private static void others() {
        Run x = new Run(C, "NONE for others");
        x.none("printed(0)");
        x.none("printed(-1)");
        x.pictures(1);
        x.due("sale(0, 0, 0, 1, -1, -1)", 0);
        x.none("printed(0)");
        x.due("print(0, 0, 0, 1)", 0);
        x.due("printed(0)", 0);
        x.none("printed(1)");
        x.none("printed(-1)");
        x.none("printed(60)");
        x.none("printed(MIN)");
        x.none("printed(MAX)");
    }

    private static void lastOfSixty() {
        Run x = new Run(C, "The SALE to which a PRINTING was led: the last ones of 60");
        x.pictures(1);
        for (int i = 0; i < 60; i++) {
            x.due("sale(0, 0, 0, 1, -1, -1)", i);
            x.due("print(0, 0, 0, 1)", i);
        }
        x.due("printed(59)", 59);
        x.due("printed(0)", 0);
        x.due("saleOf(59, 10)", 59);
        x.none("printed(60)");
    }
}
