/**
 * Promise 26, saleOf: "Of a SALE: 0 PICTURE, 1 land, 2 use, 3 size, 4 MINUTE, 5 till when it SHUTS (NONE), 6 PRICE, 7
 * what its SHUTTER got, 8 what the FIRST's SHUTTER got, 9 whether it is STRUCK, 10 the PRINTING that is led to it
 * (NONE). NONE for others."
 */
public final class Promise26SaleOfTest {
    private static final Checks C = new Checks("Promise26SaleOfTest");

    public static void main(String[] args) {
        ofASale();
        leastAndGreatest();
        asItWasMade();
        otherSale();
        otherWhat();
        lastOfSixty();
        C.finish();
    }

    private static void tells(Run x, int sale, int... want) {
        for (int what = 0; what < want.length; what++) {
            x.due("saleOf(" + sale + ", " + what + ")", want[what]);
        }
    }

    private static void ofASale() {
        Run x = new Run(C, "Of a SALE: 0 to 10");
        x.due("picture(4, 9, 0, 0)", 0);
        x.due("picture(5, 8, 1, 0)", 1);
        x.yes("minute(33)");
        x.yes("rate(3, 11)");
        x.yes("rate(-1, 60)");
        x.due("sale(1, 6, 3, 9, -1, -1)", 0);
        x.due("sale(0, 7, 3, 9, -1, 44)", 1);
        tells(x, 0, 1, 6, 3, 9, 33, -1, 99, 59, 0, 0, -1);
        tells(x, 1, 0, 7, 3, 9, 33, 44, 198, 107, 11, 0, -1);
        x.due("print(0, 0, 0, 1)", 0);
        x.due("print(0, 7, 3, 9)", 1);
        x.due("print(0, 6, 3, 9)", 2);
        tells(x, 0, 1, 6, 3, 9, 33, -1, 99, 59, 0, 0, 2);
        tells(x, 1, 0, 7, 3, 9, 33, 44, 198, 107, 11, 0, 1);
    }

    private static void leastAndGreatest() {
        Run x = new Run(C, "Of a SALE: the least and the greatest of each");
        x.pictures(39);
        x.due("picture(15, 1, 0, 0)", 39);
        x.yes("rate(0, 0)");
        x.yes("rate(4, 100000)");
        x.yes("rate(-1, 100)");
        x.due("sale(0, 0, 0, 1, -1, 0)", 0);
        x.yes("minute(100000)");
        x.due("sale(39, 9, 4, 1000, -1, 100000)", 1);
        tells(x, 0, 0, 0, 0, 1, 0, 0, 0, 0, 0, 0, -1);
        tells(x, 1, 39, 9, 4, 1000, 100000, 100000, 200000000, 180000000, 20000000, 0, -1);
    }

    private static void asItWasMade() {
        Run x = new Run(C, "9 whether it is STRUCK: the rest is told as it was made, also when it is");
        x.due("picture(4, 9, 0, 0)", 0);
        x.due("picture(5, 8, 1, 0)", 1);
        x.due("sale(0, 7, 3, 9, -1, 44)", 0);
        x.due("print(0, 7, 3, 9)", 0);
        x.yes("minute(50)");
        x.yes("limit(0)");
        x.yes("rate(3, 1)");
        x.yes("rate(-1, 1)");
        tells(x, 0, 0, 7, 3, 9, 0, 44, 1800, 810, 90, 0, 0);
        x.yes("strike(0)");
        tells(x, 0, 0, 7, 3, 9, 0, 44, 1800, 810, 90, 1, 0);
    }

    private static void otherSale() {
        Run x = new Run(C, "NONE for others: no such SALE");
        for (int what = 0; what <= 10; what++) {
            x.none("saleOf(0, " + what + ")");
        }
        x.pictures(1);
        x.due("sale(0, 0, 0, 1, -1, -1)", 0);
        x.due("saleOf(0, 6)", 100);
        for (String sale : new String[] {"1", "-1", "60", "MIN", "MAX"}) {
            x.none("saleOf(" + sale + ", 0)");
            x.none("saleOf(" + sale + ", 6)");
            x.none("saleOf(" + sale + ", 9)");
        }
    }

    private static void otherWhat() {
        Run x = new Run(C, "NONE for others: what");
        x.pictures(1);
        x.due("sale(0, 0, 0, 1, -1, 0)", 0);
        x.due("print(0, 0, 0, 1)", 0);
        x.due("saleOf(0, 0)", 0);
        x.due("saleOf(0, 10)", 0);
        x.none("saleOf(0, 11)");
        x.none("saleOf(0, -1)");
        x.none("saleOf(0, MIN)");
        x.none("saleOf(0, MAX)");
    }

    private static void lastOfSixty() {
        Run x = new Run(C, "Of a SALE: the last one of 60");
        x.pictures(1);
        for (int i = 0; i < 60; i++) {
            x.due("sale(0, 0, 0, " + (i + 1) + ", -1, -1)", i);
        }
        x.due("saleOf(59, 3)", 60);
        x.due("saleOf(58, 3)", 59);
        x.due("saleOf(59, 6)", 6000);
        x.due("saleOf(59, 9)", 0);
        x.due("saleOf(59, 10)", -1);
        x.none("saleOf(60, 3)");
    }
}
