/** Promises 28 and 29: printings, led to a sale or claimed. */
public final class PrintingsTest {
    private static final Checks C = new Checks("PrintingsTest");

    public static void main(String[] args) {
        others();
        led();
        strikes();
        atMostSixty();
        C.finish();
    }

    private static void others() {
        PictureAgency x = new PictureAgency();
        x.picture(0, 0, 0L, 1);
        C.due("picture 1", x.print(1, 0, 0, 1), -1);
        C.due("picture -1", x.print(-1, 0, 0, 1), -1);
        C.due("land 10", x.print(0, 10, 0, 1), -1);
        C.due("land -1", x.print(0, -1, 0, 1), -1);
        C.due("use 5", x.print(0, 0, 5, 1), -1);
        C.due("use -1", x.print(0, 0, -1, 1), -1);
        C.due("size 0", x.print(0, 0, 0, 0), -1);
        C.due("size 1001", x.print(0, 0, 0, 1001), -1);
        C.due("about(4)", x.about(4), 0);
        x.leave(0, false);
        x.embargo(0, 500);
        C.due("one that wasn't let is a printing too", x.print(0, 9, 4, 1000), 0);
        C.due("printed(0)", x.printed(0), -1);
        C.due("printed(1)", x.printed(1), -1);
        C.due("printed(-1)", x.printed(-1), -1);
        C.due("printed(MIN)", x.printed(Integer.MIN_VALUE), -1);
        C.due("about(4)", x.about(4), 1);
        C.due("about(5)", x.about(5), 1);
    }

    private static void led() {
        PictureAgency x = new PictureAgency();
        x.picture(0, 0, 0L, 0);
        x.picture(0, 0, 10L, 0);
        x.picture(0, 0, -1L, 0);
        x.sale(0, 1, 2, 10, -1, -1);
        x.sale(1, 1, 2, 20, -1, -1);
        x.sale(0, 1, 2, 10, -1, -1);
        check(x, x.print(0, 2, 2, 1), 0, -1);
        check(x, x.print(0, 1, 1, 1), 1, -1);
        check(x, x.print(2, 1, 2, 1), 2, -1);
        check(x, x.print(0, 1, 2, 21), 3, -1);
        check(x, x.print(0, 1, 2, 11), 4, 1);
        check(x, x.print(1, 1, 2, 10), 5, 0);
        check(x, x.print(1, 1, 2, 11), 6, -1);
        x.limit(9);
        check(x, x.print(1, 1, 2, 1), 7, -1);
        x.limit(10);
        x.minute(7);
        check(x, x.print(1, 1, 2, 1), 8, 2);
        check(x, x.print(1, 1, 2, 1), 9, -1);
        C.due("saleOf(0, 10)", x.saleOf(0, 10), 5);
        C.due("saleOf(1, 10)", x.saleOf(1, 10), 4);
        C.due("saleOf(2, 10)", x.saleOf(2, 10), 8);
        C.due("about(4)", x.about(4), 10);
        C.due("about(5)", x.about(5), 7);
        x.sale(0, 1, 2, 10, -1, -1);
        C.due("a claim stays one", x.printed(9), -1);
        C.due("saleOf(3, 10)", x.saleOf(3, 10), -1);
    }

    private static void check(PictureAgency x, int number, int wantNumber, int wantSale) {
        C.due("print", number, wantNumber);
        C.due("printed(" + number + ")", x.printed(number), wantSale);
    }

    private static void strikes() {
        PictureAgency x = new PictureAgency();
        x.picture(0, 0, 0L, 0);
        for (int i = 0; i < 3; i++) {
            x.sale(0, 0, 0, 5, -1, -1);
        }
        x.strike(0);
        check(x, x.print(0, 0, 0, 5), 0, 1);
        x.strike(1);
        C.due("what was led stays", x.printed(0), 1);
        C.due("what was led stays", x.saleOf(1, 10), 0);
        C.due("about(5)", x.about(5), 0);
        check(x, x.print(0, 0, 0, 5), 1, 2);
        check(x, x.print(0, 0, 0, 5), 2, -1);
    }

    private static void atMostSixty() {
        PictureAgency x = new PictureAgency();
        x.picture(0, 0, 0L, 0);
        for (int i = 0; i < 60; i++) {
            if (i % 2 == 0) {
                x.sale(0, 0, 0, 1, -1, -1);
            }
            check(x, x.print(0, 0, 0, 1), i, i % 2 == 0 ? i / 2 : -1);
        }
        x.sale(0, 0, 0, 1, -1, -1);
        C.due("printing 60", x.print(0, 0, 0, 1), -1);
        C.due("no sale is led to by it", x.saleOf(30, 10), -1);
        C.due("about(4)", x.about(4), 60);
        C.due("about(5)", x.about(5), 30);
        C.due("printed(59)", x.printed(59), -1);
        C.due("printed(58)", x.printed(58), 29);
        C.due("printed(60)", x.printed(60), -1);
    }
}
