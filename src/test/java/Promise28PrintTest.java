/** Promise 28, print: "A PRINTING: its number. NONE for others, or if there are 60." And of the Terms what it is led to. */
public final class Promise28PrintTest {
    private static final Checks C = new Checks("Promise28PrintTest");

    public static void main(String[] args) {
        itsNumber();
        otherPicture();
        otherLand();
        otherUse();
        otherSize();
        thereAreSixty();
        thatSizeOrAGreaterOne();
        thatLandAndUse();
        ofItsSet();
        notStruckNorLedTo();
        theFirst();
        madeByNow();
        alsoWhereNotLet();
        C.finish();
    }

    private static void itsNumber() {
        Run x = new Run(C, "A PRINTING: its number");
        x.pictures(1);
        x.due("print(0, 0, 0, 1)", 0);
        x.due("print(0, 9, 4, 1000)", 1);
        x.due("about(4)", 2);
        x.due("about(5)", 2);
        x.none("print(0, 0, 0, 0)");
        x.due("print(0, 0, 0, 1)", 2);
    }

    private static void otherPicture() {
        Run x = new Run(C, "NONE for others: no such PICTURE");
        x.none("print(0, 0, 0, 1)");
        x.pictures(2);
        x.due("sale(0, 0, 0, 1, -1, -1)", 0);
        for (String picture : new String[] {"2", "-1", "40", "MIN", "MAX"}) {
            x.none("print(" + picture + ", 0, 0, 1)");
        }
        x.due("about(4)", 0);
        x.due("saleOf(0, 10)", -1);
        x.due("print(1, 0, 0, 1)", 0);
        x.due("printed(0)", 0);
    }

    private static void otherLand() {
        Run x = new Run(C, "NONE for others: a land (0 .. 9)");
        x.pictures(1);
        for (String land : new String[] {"10", "-1", "MIN", "MAX"}) {
            x.none("print(0, " + land + ", 0, 1)");
        }
        x.due("print(0, 0, 0, 1)", 0);
        x.due("print(0, 9, 0, 1)", 1);
    }

    private static void otherUse() {
        Run x = new Run(C, "NONE for others: a use (0 .. 4)");
        x.pictures(1);
        for (String use : new String[] {"5", "-1", "MIN", "MAX"}) {
            x.none("print(0, 0, " + use + ", 1)");
        }
        x.due("print(0, 0, 0, 1)", 0);
        x.due("print(0, 0, 4, 1)", 1);
    }

    private static void otherSize() {
        Run x = new Run(C, "NONE for others: a size (1 .. 1000)");
        x.pictures(1);
        x.due("sale(0, 0, 0, 1000, -1, -1)", 0);
        for (String size : new String[] {"0", "1001", "-1", "MIN", "MAX"}) {
            x.none("print(0, 0, 0, " + size + ")");
        }
        x.due("about(4)", 0);
        x.due("print(0, 0, 0, 1000)", 0);
        x.due("printed(0)", 0);
        x.due("print(0, 0, 0, 1)", 1);
    }

    private static void thereAreSixty() {
        Run x = new Run(C, "NONE if there are 60");
        x.pictures(1);
        for (int i = 0; i < 59; i++) {
            x.due("print(0, 0, 0, 1)", i);
        }
        x.none("print(0, 0, 5, 1)");
        x.due("sale(0, 0, 0, 1, -1, -1)", 0);
        x.due("print(0, 0, 0, 1)", 59);
        x.due("printed(59)", 0);
        x.due("sale(0, 0, 0, 1, -1, -1)", 1);
        x.none("print(0, 0, 0, 1)");
        x.none("print(0, 1, 0, 1)");
        x.due("saleOf(1, 10)", -1);
        x.due("about(4)", 60);
        x.due("about(5)", 59);
    }

    private static void thatSizeOrAGreaterOne() {
        Run x = new Run(C, "led to a SALE of that size or a greater one");
        x.pictures(1);
        x.due("sale(0, 0, 0, 10, -1, -1)", 0);
        x.due("sale(0, 0, 0, 20, -1, -1)", 1);
        x.due("print(0, 0, 0, 21)", 0);
        x.due("printed(0)", -1);
        x.due("print(0, 0, 0, 11)", 1);
        x.due("printed(1)", 1);
        x.due("print(0, 0, 0, 11)", 2);
        x.due("printed(2)", -1);
        x.due("print(0, 0, 0, 10)", 3);
        x.due("printed(3)", 0);
    }

    private static void thatLandAndUse() {
        Run x = new Run(C, "led to a SALE in that land, for that use");
        x.pictures(1);
        x.due("sale(0, 3, 2, 10, -1, -1)", 0);
        x.due("print(0, 2, 2, 1)", 0);
        x.due("print(0, 4, 2, 1)", 1);
        x.due("print(0, 3, 1, 1)", 2);
        x.due("print(0, 3, 3, 1)", 3);
        for (int i = 0; i < 4; i++) {
            x.due("printed(" + i + ")", -1);
        }
        x.due("print(0, 3, 2, 1)", 4);
        x.due("printed(4)", 0);
    }

    private static void ofItsSet() {
        Run x = new Run(C, "led to a SALE of a PICTURE of its SET");
        x.due("picture(0, 0, 0, 0)", 0);
        x.due("picture(0, 0, " + 0xAAL + ", 0)", 1);
        x.due("sale(0, 0, 0, 1, -1, -1)", 0);
        x.due("sale(1, 0, 0, 1, -1, -1)", 1);
        x.due("print(1, 0, 0, 1)", 0);
        x.due("printed(0)", 1);
        x.due("print(1, 0, 0, 1)", 1);
        x.due("printed(1)", -1);
        x.yes("limit(19)");
        x.due("print(1, 0, 0, 1)", 2);
        x.due("printed(2)", -1);
        x.yes("limit(20)");
        x.due("print(1, 0, 0, 1)", 3);
        x.due("printed(3)", 0);
        x.due("sale(0, 0, 0, 1, -1, -1)", 2);
        x.yes("limit(10)");
        x.due("picture(0, 0, " + 0xAL + ", 0)", 2);
        x.due("print(1, 0, 0, 1)", 4);
        x.due("printed(4)", 2);
    }

    private static void notStruckNorLedTo() {
        Run x = new Run(C, "led to a SALE that isn't struck, nor led to by another one");
        x.pictures(1);
        x.due("sale(0, 0, 0, 1, -1, -1)", 0);
        x.due("sale(0, 0, 0, 1, -1, -1)", 1);
        x.due("sale(0, 0, 0, 1, -1, -1)", 2);
        x.yes("strike(0)");
        x.due("print(0, 0, 0, 1)", 0);
        x.due("printed(0)", 1);
        x.due("print(0, 0, 0, 1)", 1);
        x.due("printed(1)", 2);
        x.due("print(0, 0, 0, 1)", 2);
        x.due("printed(2)", -1);
        x.due("about(5)", 1);
        x.yes("strike(1)");
        x.due("print(0, 0, 0, 1)", 3);
        x.due("printed(3)", -1);
        x.due("saleOf(0, 10)", -1);
        x.due("saleOf(1, 10)", 0);
        x.due("saleOf(2, 10)", 1);
    }

    private static void theFirst() {
        Run x = new Run(C, "led to the first SALE");
        x.pictures(2);
        x.due("sale(1, 0, 0, 500, -1, -1)", 0);
        x.due("sale(0, 0, 0, 5, -1, -1)", 1);
        x.due("print(0, 0, 0, 5)", 0);
        x.due("printed(0)", 0);
        x.due("print(0, 0, 0, 5)", 1);
        x.due("printed(1)", 1);
        for (int i = 2; i < 60; i++) {
            x.due("sale(0, 0, 1, 1, -1, -1)", i);
        }
        for (int i = 2; i < 60; i++) {
            x.due("print(1, 0, 1, 1)", i);
            x.due("printed(" + i + ")", i);
        }
        x.none("print(1, 0, 1, 1)");
    }

    private static void madeByNow() {
        Run x = new Run(C, "made by now; else it is a CLAIM");
        x.pictures(1);
        x.yes("minute(5)");
        x.due("print(0, 0, 0, 1)", 0);
        x.due("sale(0, 0, 0, 1, -1, -1)", 0);
        x.due("printed(0)", -1);
        x.due("saleOf(0, 10)", -1);
        x.due("print(0, 0, 0, 1)", 1);
        x.due("printed(1)", 0);
        x.due("sale(0, 0, 0, 1, -1, -1)", 1);
        x.yes("minute(100000)");
        x.due("print(0, 0, 0, 1)", 2);
        x.due("printed(2)", 1);
        x.due("about(5)", 1);
    }

    private static void alsoWhereNotLet() {
        Run x = new Run(C, "A PRINTING, whether it was LET or not");
        x.due("picture(0, 0, 0, 1)", 0);
        x.due("sale(0, 0, 0, 5, -1, 100000)", 0);
        x.text(0, "land 9;", 1);
        x.yes("leave(0, false)");
        x.yes("embargo(0, 9)");
        x.due("why(0, 0, 0, 5, -1)", 1);
        x.due("print(0, 0, 0, 5)", 0);
        x.due("printed(0)", 0);
        x.due("print(0, 0, 0, 5)", 1);
        x.due("printed(1)", -1);
    }
}
