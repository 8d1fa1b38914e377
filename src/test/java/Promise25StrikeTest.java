/** Promise 25, strike: "A SALE is STRUCK: true. False: there is none such, or it is." */
public final class Promise25StrikeTest {
    private static final Checks C = new Checks("Promise25StrikeTest");

    public static void main(String[] args) {
        allIsTakenBack();
        shutsNothingMore();
        noneSuch();
        itIs();
        lastOfSixty();
        C.finish();
    }

    private static void allIsTakenBack() {
        Run x = new Run(C, "A SALE is STRUCK: all of it is taken back");
        x.due("picture(1, 5, 0, 0)", 0);
        x.due("picture(2, 4, 0, 0)", 1);
        x.due("sale(0, 0, 0, 1, -1, -1)", 0);
        x.due("sale(0, 0, 0, 10, -1, -1)", 1);
        x.due("got(1)", 495);
        x.due("got(2)", 55);
        x.due("got(-1)", 550);
        x.yes("strike(1)");
        x.due("saleOf(1, 9)", 1);
        x.due("saleOf(0, 9)", 0);
        x.due("got(1)", 45);
        x.due("got(2)", 5);
        x.due("got(-1)", 50);
        x.yes("strike(0)");
        x.due("got(1)", 0);
        x.due("got(2)", 0);
        x.due("got(-1)", 0);
        x.due("about(3)", 2);
    }

    private static void shutsNothingMore() {
        Run x = new Run(C, "STRUCK: the SALE SHUTS nothing more");
        x.pictures(1);
        x.due("sale(0, 0, 0, 1, -1, 100000)", 0);
        x.due("sale(0, 1, 0, 1, -1, 100000)", 1);
        x.uses("0, 0, 0, 1, -1", 4, 0);
        x.yes("strike(0)");
        x.uses("0, 0, 0, 1, -1", 0, -1);
        x.uses("0, 1, 0, 1, -1", 4, 1);
        x.due("sale(0, 0, 0, 1, -1, 100000)", 2);
        x.uses("0, 0, 0, 1, -1", 4, 2);
    }

    private static void noneSuch() {
        Run x = new Run(C, "False: there is none such");
        x.no("strike(0)");
        x.no("strike(-1)");
        x.pictures(1);
        x.due("sale(0, 0, 0, 1, -1, -1)", 0);
        x.due("sale(0, 0, 0, 1, -1, 5)", 1);
        x.no("strike(2)");
        x.no("strike(-1)");
        x.no("strike(60)");
        x.no("strike(MIN)");
        x.no("strike(MAX)");
        x.due("got(0)", 150);
        x.yes("strike(1)");
        x.due("got(0)", 50);
    }

    private static void itIs() {
        Run x = new Run(C, "False: it is");
        x.pictures(1);
        x.due("sale(0, 0, 0, 1, -1, -1)", 0);
        x.due("sale(0, 0, 0, 1, -1, -1)", 1);
        x.yes("strike(0)");
        x.no("strike(0)");
        x.yes("minute(5)");
        x.no("strike(0)");
        x.due("saleOf(0, 9)", 1);
        x.due("got(0)", 50);
        x.due("got(-1)", 50);
        x.yes("strike(1)");
        x.no("strike(1)");
    }

    private static void lastOfSixty() {
        Run x = new Run(C, "A SALE is STRUCK: the last one of 60");
        x.pictures(1);
        for (int i = 0; i < 60; i++) {
            x.due("sale(0, 0, 0, 1, -1, -1)", i);
        }
        x.no("strike(60)");
        x.yes("strike(59)");
        x.no("strike(59)");
        x.due("got(0)", 59 * 50);
        x.yes("strike(0)");
        x.due("got(0)", 58 * 50);
    }
}
