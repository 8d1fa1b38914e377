/** Promises 23 to 27: rates, sales, how they are split, and how they are struck. */
public final class SalesTest {
    private static final Checks C = new Checks("SalesTest");

    public static void main(String[] args) {
        rates();
        others();
        whatASaleTells();
        splitting();
        greatest();
        shutting();
        striking();
        atMostSixty();
        C.finish();
    }

    private static void rates() {
        PictureAgency x = new PictureAgency();
        x.picture(0, 0, 0L, 0);
        C.no("rate(-2, 1)", x.rate(-2, 1));
        C.no("rate(5, 1)", x.rate(5, 1));
        C.no("rate(0, -1)", x.rate(0, -1));
        C.no("rate(0, 100001)", x.rate(0, 100001));
        C.no("rate(-1, -1)", x.rate(-1, -1));
        C.no("rate(-1, 101)", x.rate(-1, 101));
        C.no("rate(MAX, MIN)", x.rate(Integer.MAX_VALUE, Integer.MIN_VALUE));
        C.due("about(7)", x.about(7), 50);
        for (int use = 0; use < 5; use++) {
            C.due("sale", x.sale(0, 0, use, 7, -1, -1), use);
            C.due("price at first", x.saleOf(use, 6), 700);
            C.yes("rate", x.rate(use, use == 4 ? 100000 : use));
        }
        for (int use = 0; use < 5; use++) {
            C.due("sale", x.sale(0, 0, use, 7, -1, -1), 5 + use);
            C.due("price", x.saleOf(5 + use, 6), 7 * (use == 4 ? 100000 : use));
            C.due("the earlier price stays", x.saleOf(use, 6), 700);
        }
        C.yes("rate(-1, 0)", x.rate(-1, 0));
        C.due("about(7)", x.about(7), 0);
        C.yes("rate(-1, 100)", x.rate(-1, 100));
        C.due("about(7)", x.about(7), 100);
        C.due("the earlier split stays", x.saleOf(0, 7), 350);
    }

    private static void others() {
        PictureAgency x = new PictureAgency();
        x.picture(0, 0, 0L, 1);
        x.word(-1);
        x.minute(10);
        C.due("picture 1", x.sale(1, 0, 0, 1, -1, -1), -1);
        C.due("picture -1", x.sale(-1, 0, 0, 1, -1, -1), -1);
        C.due("land 10", x.sale(0, 10, 0, 1, -1, -1), -1);
        C.due("land -1", x.sale(0, -1, 0, 1, -1, -1), -1);
        C.due("use 5", x.sale(0, 0, 5, 1, -1, -1), -1);
        C.due("use -1", x.sale(0, 0, -1, 1, -1, -1), -1);
        C.due("size 0", x.sale(0, 0, 0, 0, -1, -1), -1);
        C.due("size 1001", x.sale(0, 0, 0, 1001, -1, -1), -1);
        C.due("beside 1", x.sale(0, 0, 0, 1, 1, -1), -1);
        C.due("beside -2", x.sale(0, 0, 0, 1, -2, -1), -1);
        C.due("until -2", x.sale(0, 0, 0, 1, -1, -2), -1);
        C.due("until 9", x.sale(0, 0, 0, 1, -1, 9), -1);
        C.due("until 100001", x.sale(0, 0, 0, 1, -1, 100001), -1);
        x.leave(0, false);
        C.due("it isn't let", x.sale(0, 0, 0, 1, -1, -1), -1);
        x.leave(0, true);
        x.embargo(0, 11);
        C.due("it isn't let", x.sale(0, 0, 0, 1, -1, -1), -1);
        x.embargo(0, 10);
        Checks.textOf(x, 0, "not 0;");
        C.due("it isn't let", x.sale(0, 0, 0, 1, 0, -1), -1);
        C.due("about(3)", x.about(3), 0);
        C.due("it is", x.sale(0, 0, 0, 1, -1, 10), 0);
        C.due("until 100000", x.sale(0, 1, 0, 1, -1, 100000), 1);
    }

    private static void whatASaleTells() {
        PictureAgency x = new PictureAgency();
        x.picture(4, 9, 0L, 0);
        x.picture(5, 8, 1L, 0);
        x.word(-1);
        x.minute(33);
        x.rate(3, 11);
        x.rate(-1, 60);
        C.due("sale", x.sale(0, 7, 3, 9, 0, 44), 0);
        int[] want = {0, 7, 3, 9, 33, 44, 198, 107, 11, 0, -1};
        for (int what = 0; what < want.length; what++) {
            C.due("saleOf(0, " + what + ")", x.saleOf(0, what), want[what]);
        }
        C.due("sale", x.sale(1, 7, 3, 9, 0, -1), -1);
        C.due("sale", x.sale(1, 6, 3, 9, 0, -1), 1);
        C.due("saleOf(1, 5)", x.saleOf(1, 5), -1);
        C.due("saleOf(1, 6)", x.saleOf(1, 6), 99);
        C.due("saleOf(0, 11)", x.saleOf(0, 11), -1);
        C.due("saleOf(0, -1)", x.saleOf(0, -1), -1);
        C.due("saleOf(2, 0)", x.saleOf(2, 0), -1);
        C.due("saleOf(-1, 0)", x.saleOf(-1, 0), -1);
        x.strike(0);
        want[9] = 1;
        for (int what = 0; what < want.length; what++) {
            C.due("saleOf(0, " + what + ") when struck", x.saleOf(0, what), want[what]);
        }
    }

    private static void splitting() {
        PictureAgency x = new PictureAgency();
        x.picture(1, 50, 0L, 0);
        x.picture(2, 40, 1L, 0);
        x.picture(1, 60, -1L, 0);
        x.picture(1, 70, -1L, 0);
        x.rate(0, 33);
        x.rate(-1, 47);
        x.sale(0, 0, 0, 7, -1, -1);
        // 231 * 47 / 100 = 108, a tenth of it 10
        C.due("PRICE", x.saleOf(0, 6), 231);
        C.due("its SHUTTER", x.saleOf(0, 7), 98);
        C.due("the FIRST's", x.saleOf(0, 8), 10);
        C.due("got(1)", x.got(1), 98);
        C.due("got(2)", x.got(2), 10);
        C.due("got(-1)", x.got(-1), 123);
        x.sale(1, 0, 0, 7, -1, -1);
        C.due("the FIRST itself", x.saleOf(1, 7), 108);
        C.due("the FIRST itself", x.saleOf(1, 8), 0);
        x.sale(3, 0, 0, 7, -1, -1);
        C.due("the FIRST by the same one", x.saleOf(2, 7), 108);
        C.due("the FIRST by the same one", x.saleOf(2, 8), 0);
        C.due("got(1)", x.got(1), 206);
        C.due("got(2)", x.got(2), 118);
        C.due("got(-1)", x.got(-1), 369);
        C.due("got(0)", x.got(0), 0);
        C.due("got(16)", x.got(16), 0);
        C.due("got(-2)", x.got(-2), 0);
        C.due("got(MIN)", x.got(Integer.MIN_VALUE), 0);
        x.limit(0);
        C.due("what was split stays", x.saleOf(0, 8), 10);
        x.sale(0, 0, 0, 7, -1, -1);
        C.due("alone in its set by now", x.saleOf(3, 7), 108);
        C.due("alone in its set by now", x.saleOf(3, 8), 0);
        C.due("got(1)", x.got(1), 314);
    }

    private static void greatest() {
        PictureAgency x = new PictureAgency();
        x.picture(15, 1, 0L, 0);
        x.picture(0, 0, 0L, 0);
        x.rate(0, 100000);
        x.rate(-1, 100);
        for (int land = 0; land < 10; land++) {
            C.due("sale", x.sale(0, land, 0, 1000, -1, 0), land);
            C.due("PRICE", x.saleOf(land, 6), 200000000);
            C.due("its SHUTTER", x.saleOf(land, 7), 180000000);
            C.due("the FIRST's", x.saleOf(land, 8), 20000000);
        }
        for (int i = 1; i <= 5; i++) {
            x.minute(i);
            for (int land = 0; land < 10; land++) {
                x.sale(0, land, 0, 1000, -1, i);
            }
        }
        C.due("about(3)", x.about(3), 60);
        C.due("got(15)", x.got(15), 10800000000L);
        C.due("got(0)", x.got(0), 1200000000L);
        C.due("got(-1)", x.got(-1), 0);
        PictureAgency y = new PictureAgency();
        y.picture(3, 0, 0L, 0);
        y.rate(0, 100000);
        y.rate(-1, 99);
        y.sale(0, 0, 0, 1000, -1, 0);
        C.due("its SHUTTER", y.saleOf(0, 7), 198000000);
        C.due("got(-1)", y.got(-1), 2000000);
    }

    private static void shutting() {
        PictureAgency x = new PictureAgency();
        x.picture(0, 0, 0L, 0);
        x.picture(0, 0, 5L, 0);
        x.minute(4);
        C.due("one that doesn't shut", x.sale(0, 1, 0, 1, -1, -1), 0);
        C.due("one that shuts", x.sale(1, 1, 0, 1, -1, 6), 1);
        C.due("shut", x.sale(0, 1, 1, 1, -1, -1), -1);
        C.due("shut for itself too", x.sale(1, 1, 0, 1, -1, 6), -1);
        C.due("another land", x.sale(0, 2, 1, 1, -1, -1), 2);
        x.minute(6);
        C.due("still shut", x.sale(0, 1, 1, 1, -1, -1), -1);
        x.minute(7);
        C.due("open", x.sale(0, 1, 1, 1, -1, -1), 3);
    }

    private static void striking() {
        PictureAgency x = new PictureAgency();
        x.picture(1, 5, 0L, 0);
        x.picture(2, 4, 0L, 0);
        x.sale(0, 0, 0, 10, -1, 50);
        C.due("got(1)", x.got(1), 900);
        C.due("got(2)", x.got(2), 100);
        C.due("got(-1)", x.got(-1), 1000);
        C.due("saleOf(0, 9)", x.saleOf(0, 9), 0);
        C.no("strike(1)", x.strike(1));
        C.no("strike(-1)", x.strike(-1));
        C.no("strike(MAX)", x.strike(Integer.MAX_VALUE));
        C.due("why", x.why(1, 0, 0, 1, -1), 4);
        C.yes("strike(0)", x.strike(0));
        C.no("strike(0)", x.strike(0));
        C.due("saleOf(0, 9)", x.saleOf(0, 9), 1);
        C.due("why", x.why(1, 0, 0, 1, -1), 0);
        C.due("got(1)", x.got(1), 0);
        C.due("got(2)", x.got(2), 0);
        C.due("got(-1)", x.got(-1), 0);
        C.due("about(3)", x.about(3), 1);
        C.due("the next", x.sale(0, 0, 0, 1, -1, -1), 1);
        C.due("got(1)", x.got(1), 45);
    }

    private static void atMostSixty() {
        PictureAgency x = new PictureAgency();
        x.picture(1, 5, 0L, 0);
        for (int i = 0; i < 60; i++) {
            C.due("sale " + i, x.sale(0, 0, 0, 1, -1, -1), i);
        }
        C.due("sale 60", x.sale(0, 0, 0, 1, -1, -1), -1);
        C.yes("strike(59)", x.strike(59));
        C.due("sale 60, one being struck", x.sale(0, 0, 0, 1, -1, -1), -1);
        C.due("got(1)", x.got(1), 59 * 50);
        C.due("about(3)", x.about(3), 60);
    }
}
