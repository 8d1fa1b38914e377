/**
 * Promise 30, about: "0 WORDS, 1 PICTURES, 2 MINUTE, 3 SALES, 4 PRINTINGS, 5 CLAIMS, 6 LIMIT, 7 SHARE, 8 bytes of the
 * tape. NONE for others."
 */
public final class Promise30AboutTest {
    private static final Checks C = new Checks("Promise30AboutTest");

    public static void main(String[] args) {
        ofANewObject();
        eachOfThem();
        theGreatest();
        others();
        C.finish();
    }

    private static void tells(Run x, int... want) {
        for (int what = 0; what < want.length; what++) {
            x.due("about(" + what + ")", want[what]);
        }
    }

    private static void ofANewObject() {
        Run x = new Run(C, "0 to 8, of a new object");
        tells(x, 0, 0, 0, 0, 0, 0, 10, 50, 0);
    }

    private static void eachOfThem() {
        Run x = new Run(C, "0 to 8, each of them alone");
        x.words(2);
        tells(x, 2, 0, 0, 0, 0, 0, 10, 50, 0);
        x.pictures(3);
        tells(x, 2, 3, 0, 0, 0, 0, 10, 50, 0);
        x.yes("minute(9)");
        tells(x, 2, 3, 9, 0, 0, 0, 10, 50, 0);
        x.due("sale(0, 0, 0, 1, -1, -1)", 0);
        tells(x, 2, 3, 9, 1, 0, 0, 10, 50, 0);
        x.due("print(0, 0, 0, 1)", 0);
        tells(x, 2, 3, 9, 1, 1, 0, 10, 50, 0);
        x.due("print(0, 0, 0, 1)", 1);
        tells(x, 2, 3, 9, 1, 2, 1, 10, 50, 0);
        x.yes("strike(0)");
        tells(x, 2, 3, 9, 1, 2, 1, 10, 50, 0);
        x.yes("limit(240)");
        tells(x, 2, 3, 9, 1, 2, 1, 240, 50, 0);
        x.yes("rate(-1, 77)");
        tells(x, 2, 3, 9, 1, 2, 1, 240, 77, 0);
        x.due("feed(0, 0, 0, 0, 0)", 20);
        x.due("end(13)", 13);
        tells(x, 2, 3, 9, 1, 2, 1, 240, 77, 13);
        x.yes("rate(0, 3)");
        x.yes("leave(0, false)");
        x.yes("put(0, -1)");
        x.yes("caption(0, 0, true)");
        x.yes("embargo(0, 5)");
        tells(x, 2, 3, 9, 1, 2, 1, 240, 77, 13);
    }

    private static void theGreatest() {
        Run x = new Run(C, "0 to 8, the greatest of each");
        x.words(40);
        x.pictures(40);
        x.yes("minute(100000)");
        for (int i = 0; i < 60; i++) {
            x.due("print(0, 0, 0, 1)", i);
        }
        for (int i = 0; i < 60; i++) {
            x.due("sale(0, 0, 0, 1, -1, -1)", i);
        }
        x.yes("limit(240)");
        x.yes("rate(-1, 100)");
        for (int length = 20; length <= 120; length += 20) {
            x.due("feed(0, 0, 0, 0, 0)", length);
        }
        tells(x, 40, 40, 100000, 60, 60, 60, 240, 100, 120);
        x.none("word(-1)");
        x.none("picture(0, 0, 0, 0)");
        x.no("minute(100001)");
        x.none("sale(0, 0, 0, 1, -1, -1)");
        x.none("print(0, 0, 0, 1)");
        x.no("limit(241)");
        x.no("rate(-1, 101)");
        x.none("feed(0, 0, 0, 0, 0)");
        tells(x, 40, 40, 100000, 60, 60, 60, 240, 100, 120);
    }

    private static void others() {
        Run x = new Run(C, "NONE for others");
        x.none("about(-1)");
        x.none("about(9)");
        x.none("about(MIN)");
        x.none("about(MAX)");
        x.words(1);
        x.none("about(-1)");
        x.none("about(9)");
        x.due("about(0)", 1);
        x.due("about(8)", 0);
    }
}
