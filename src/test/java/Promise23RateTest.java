/** Promise 23, rate: "The rate of a use; SHARE (use NONE): true. False for others." */
public final class Promise23RateTest {
    private static final Checks C = new Checks("Promise23RateTest");

    public static void main(String[] args) {
        ratesOfEachUse();
        rateEnds();
        shareEnds();
        otherUse();
        atFirst();
        C.finish();
    }

    private static void ratesOfEachUse() {
        Run x = new Run(C, "The rate of a use: true");
        x.pictures(1);
        for (int use = 0; use < 5; use++) {
            x.yes("rate(" + use + ", " + (use + 1) + ")");
        }
        for (int use = 0; use < 5; use++) {
            x.due("sale(0, 0, " + use + ", 10, -1, -1)", use);
            x.due("saleOf(" + use + ", 6)", 10 * (use + 1));
        }
        x.yes("rate(2, 7)");
        x.due("saleOf(2, 6)", 30);
        x.due("sale(0, 0, 2, 10, -1, -1)", 5);
        x.due("saleOf(5, 6)", 70);
        x.due("about(7)", 50);
    }

    private static void rateEnds() {
        Run x = new Run(C, "the told rate of the use (0 .. 100000)");
        x.pictures(1);
        x.yes("rate(4, 0)");
        x.due("sale(0, 0, 4, 1000, -1, -1)", 0);
        x.due("saleOf(0, 6)", 0);
        x.yes("rate(4, 100000)");
        x.due("sale(0, 0, 4, 1, -1, -1)", 1);
        x.due("saleOf(1, 6)", 100000);
        for (String rate : new String[] {"-1", "100001", "MIN", "MAX"}) {
            x.no("rate(4, " + rate + ")");
            x.no("rate(0, " + rate + ")");
        }
        x.due("sale(0, 0, 4, 1, -1, -1)", 2);
        x.due("saleOf(2, 6)", 100000);
        x.due("sale(0, 0, 0, 1, -1, -1)", 3);
        x.due("saleOf(3, 6)", 100);
    }

    private static void shareEnds() {
        Run x = new Run(C, "SHARE (use NONE), 0 .. 100");
        x.pictures(1);
        for (String share : new String[] {"-1", "101", "100000", "100001", "MIN", "MAX"}) {
            x.no("rate(-1, " + share + ")");
        }
        x.due("about(7)", 50);
        x.yes("rate(-1, 0)");
        x.due("about(7)", 0);
        x.due("sale(0, 0, 0, 1, -1, -1)", 0);
        x.due("saleOf(0, 7)", 0);
        x.due("got(-1)", 100);
        x.yes("rate(-1, 100)");
        x.due("about(7)", 100);
        x.due("sale(0, 0, 0, 1, -1, -1)", 1);
        x.due("saleOf(1, 7)", 100);
        x.due("got(-1)", 100);
        x.no("rate(-1, 101)");
        x.no("rate(-1, -1)");
        x.due("about(7)", 100);
        x.due("saleOf(0, 7)", 0);
    }

    private static void otherUse() {
        Run x = new Run(C, "False for others: a use (0 .. 4), or NONE");
        x.pictures(1);
        for (String use : new String[] {"5", "-2", "MIN", "MAX"}) {
            x.no("rate(" + use + ", 7)");
            x.no("rate(" + use + ", 100)");
        }
        x.yes("rate(0, 7)");
        x.yes("rate(4, 7)");
        x.yes("rate(-1, 7)");
        x.due("about(7)", 7);
    }

    private static void atFirst() {
        Run x = new Run(C, "rates at first 100, SHARE at first 50");
        x.pictures(1);
        x.due("about(7)", 50);
        for (int use = 0; use < 5; use++) {
            x.due("sale(0, 0, " + use + ", 1000, -1, -1)", use);
            x.due("saleOf(" + use + ", 6)", 100000);
            x.due("saleOf(" + use + ", 7)", 50000);
        }
    }
}
