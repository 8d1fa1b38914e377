/** Promise 1, a new object: "No WORDS, PICTURES, SALES; MINUTE 0." */
public final class Promise01NewObjectTest {
    private static final Checks C = new Checks("Promise01NewObjectTest");

    public static void main(String[] args) {
        noWords();
        noPictures();
        noSales();
        minuteZero();
        whatIsSoAtFirst();
        anotherObject();
        C.finish();
    }

    private static void noWords() {
        Run x = new Run(C, "No WORDS");
        x.due("about(0)", 0);
        x.none("within(0, 0)");
        x.none("word(0)");
        x.no("put(0, -1)");
        x.none("search(0, 0, false)");
        x.none("found(0, 0, true, 0)");
        x.due("word(-1)", 0);
        x.yes("put(0, -1)");
    }

    private static void noPictures() {
        Run x = new Run(C, "No PICTURES");
        x.due("about(1)", 0);
        x.none("far(0, 0)");
        x.none("set(0, 0)");
        x.none("set(0, 1)");
        x.none("known(0, 0, false)");
        x.no("embargo(0, 0)");
        x.none("text(0)");
        x.none("why(0, 0, 0, 1, -1)");
        x.none("by(0, 0, 0, 1, -1)");
        x.none("print(0, 0, 0, 1)");
        x.due("word(-1)", 0);
        x.no("caption(0, 0, true)");
        x.none("has(0, 0, 0, false)");
        x.due("search(0, 0, true)", 0);
        x.due("picture(0, 0, 0, 0)", 0);
        x.due("far(0, 0)", 0);
    }

    private static void noSales() {
        Run x = new Run(C, "No SALES");
        x.due("about(3)", 0);
        x.due("about(4)", 0);
        x.due("about(5)", 0);
        x.no("strike(0)");
        x.none("saleOf(0, 0)");
        x.none("saleOf(0, 9)");
        x.none("printed(0)");
        for (int person = -1; person <= 15; person++) {
            x.due("got(" + person + ")", 0);
        }
        x.due("picture(0, 0, 0, 0)", 0);
        x.due("why(0, 0, 0, 1, -1)", 0);
        x.due("sale(0, 0, 0, 1, -1, -1)", 0);
    }

    private static void minuteZero() {
        Run x = new Run(C, "MINUTE 0");
        x.due("about(2)", 0);
        x.due("known(0, 0, true)", 1);
        x.none("known(0, 1, true)");
        x.yes("minute(0)");
        x.due("about(2)", 0);
    }

    private static void whatIsSoAtFirst() {
        Run x = new Run(C, "at first: LIMIT 10, rates 100, SHARE 50, LEAVES given, EMBARGO 0, no tape, no TEXT read");
        x.due("about(6)", 10);
        x.due("about(7)", 50);
        x.due("about(8)", 0);
        x.none("fault(0)");
        x.none("fault(1)");
        for (int person = 0; person < 16; person++) {
            x.due("known(" + person + ", 0, true)", 1);
        }
        x.due("picture(0, 0, 0, 65535)", 0);
        x.due("known(0, 0, false)", 0);
        for (int use = 0; use < 5; use++) {
            x.due("sale(0, 0, " + use + ", 1, -1, -1)", use);
            x.due("saleOf(" + use + ", 6)", 100);
            x.due("saleOf(" + use + ", 7)", 50);
        }
    }

    private static void anotherObject() {
        Run used = new Run(C, "one object that is used");
        used.due("word(-1)", 0);
        used.due("picture(0, 0, 0, 0)", 0);
        used.yes("minute(7)");
        used.yes("limit(3)");
        used.yes("rate(0, 1)");
        used.yes("rate(-1, 1)");
        used.yes("leave(2, false)");
        used.due("sale(0, 0, 0, 1, -1, -1)", 0);
        used.due("print(0, 0, 0, 1)", 0);
        used.due("feed(0, 0, 0, 0, 0)", 20);
        used.due("text(0)", -1);
        used.due("feed(0, 0, 0, 0, 0)", 20);
        Run x = new Run(C, "No WORDS, PICTURES, SALES; MINUTE 0, whatever was done with another object");
        int[] want = {0, 0, 0, 0, 0, 0, 10, 50, 0};
        for (int what = 0; what < want.length; what++) {
            x.due("about(" + what + ")", want[what]);
        }
        x.none("fault(0)");
        x.due("known(2, 0, true)", 1);
        x.due("picture(0, 0, 0, 0)", 0);
        x.due("sale(0, 0, 0, 1, -1, -1)", 0);
        x.due("saleOf(0, 6)", 100);
    }
}
