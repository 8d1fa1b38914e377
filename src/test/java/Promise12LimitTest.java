/** Promise 12, limit: "LIMIT: true. False for others." */
public final class Promise12LimitTest {
    private static final Checks C = new Checks("Promise12LimitTest");

    public static void main(String[] args) {
        ends();
        others();
        atFirstTen();
        C.finish();
    }

    private static void ends() {
        Run x = new Run(C, "LIMIT (0 .. 240): true");
        x.due("picture(0, 0, 0, 0)", 0);
        x.due("picture(0, 0, -1, 0)", 1);
        x.due("picture(0, 0, 1, 0)", 2);
        x.due("picture(0, 0, 0, 0)", 3);
        x.yes("limit(0)");
        x.due("about(6)", 0);
        x.due("set(0, 1)", 2);
        x.yes("limit(1)");
        x.due("about(6)", 1);
        x.due("set(0, 1)", 3);
        x.yes("limit(238)");
        x.due("set(0, 1)", 3);
        x.yes("limit(239)");
        x.due("about(6)", 239);
        x.due("set(0, 1)", 4);
        x.yes("limit(240)");
        x.due("about(6)", 240);
        x.due("set(0, 1)", 4);
    }

    private static void others() {
        Run x = new Run(C, "False for others");
        x.due("picture(0, 0, 0, 0)", 0);
        x.due("picture(0, 0, 10, 0)", 1);
        x.no("limit(-1)");
        x.no("limit(241)");
        x.no("limit(MIN)");
        x.no("limit(MAX)");
        x.due("about(6)", 10);
        x.yes("limit(9)");
        x.no("limit(-1)");
        x.no("limit(241)");
        x.due("about(6)", 9);
        x.due("set(0, 1)", 1);
    }

    private static void atFirstTen() {
        Run x = new Run(C, "LIMIT, at first 10");
        x.due("about(6)", 10);
        x.due("picture(0, 0, 0, 0)", 0);
        x.due("picture(0, 0, 11, 0)", 1);
        x.due("set(0, 1)", 1);
        x.due("picture(0, 0, 160, 0)", 2);
        x.due("set(0, 1)", 2);
        x.yes("limit(11)");
        x.due("set(0, 1)", 3);
        x.yes("limit(10)");
        x.due("set(0, 1)", 2);
    }
}
