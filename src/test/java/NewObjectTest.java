/** Promises 1, 2 and 30: a new object, the clock, and what is told about it all. */
public final class NewObjectTest {
    private static final Checks C = new Checks("NewObjectTest");

    public static void main(String[] args) {
        newObject();
        clock();
        about();
        twoObjects();
        C.finish();
    }

    private static void newObject() {
        PictureAgency x = new PictureAgency();
        int[] want = {0, 0, 0, 0, 0, 0, 10, 50, 0};
        for (int i = 0; i < want.length; i++) {
            C.due("about(" + i + ")", x.about(i), want[i]);
        }
        C.due("NONE", PictureAgency.NONE, -1);
        C.due("within(0, 0)", x.within(0, 0), -1);
        C.due("has(0, 0, 0, false)", x.has(0, 0, 0, false), -1);
        C.due("search(0, 0, false)", x.search(0, 0, false), -1);
        C.due("found(0, 0, false, 0)", x.found(0, 0, false, 0), -1);
        C.due("far(0, 0)", x.far(0, 0), -1);
        C.due("set(0, 0)", x.set(0, 0), -1);
        C.due("set(0, 1)", x.set(0, 1), -1);
        C.due("known(0, 0, false)", x.known(0, 0, false), -1);
        C.due("known(0, 0, true)", x.known(0, 0, true), 1);
        C.due("text(0)", x.text(0), -1);
        C.due("fault(0)", x.fault(0), -1);
        C.due("fault(1)", x.fault(1), -1);
        C.due("why(0, 0, 0, 1, -1)", x.why(0, 0, 0, 1, -1), -1);
        C.due("by(0, 0, 0, 1, -1)", x.by(0, 0, 0, 1, -1), -1);
        C.due("sale(0, 0, 0, 1, -1, -1)", x.sale(0, 0, 0, 1, -1, -1), -1);
        C.no("strike(0)", x.strike(0));
        C.due("saleOf(0, 0)", x.saleOf(0, 0), -1);
        C.due("print(0, 0, 0, 1)", x.print(0, 0, 0, 1), -1);
        C.due("printed(0)", x.printed(0), -1);
        for (int person = -2; person < 18; person++) {
            C.due("got(" + person + ")", x.got(person), 0);
        }
    }

    private static void clock() {
        PictureAgency x = new PictureAgency();
        C.yes("minute(0)", x.minute(0));
        C.no("minute(-1)", x.minute(-1));
        C.yes("minute(7)", x.minute(7));
        C.yes("minute(7) again", x.minute(7));
        C.no("minute(6)", x.minute(6));
        C.due("about(2)", x.about(2), 7);
        C.no("minute(100001)", x.minute(100001));
        C.no("minute(MAX)", x.minute(Integer.MAX_VALUE));
        C.no("minute(MIN)", x.minute(Integer.MIN_VALUE));
        C.due("about(2)", x.about(2), 7);
        C.yes("minute(100000)", x.minute(100000));
        C.due("about(2)", x.about(2), 100000);
        C.no("minute(99999)", x.minute(99999));
    }

    private static void about() {
        PictureAgency x = new PictureAgency();
        x.word(-1);
        x.word(0);
        x.picture(1, 0, 0L, 0);
        x.picture(2, 0, -1L, 0);
        x.picture(3, 0, 0L, 0);
        x.minute(9);
        x.sale(0, 0, 0, 1, -1, -1);
        x.print(0, 0, 0, 1);
        x.print(0, 0, 0, 1);
        x.print(1, 1, 1, 1);
        x.limit(240);
        x.rate(-1, 77);
        x.feed(1, 2, 3, 4, 5);
        x.end(13);
        int[] want = {2, 3, 9, 1, 3, 2, 240, 77, 13};
        for (int i = 0; i < want.length; i++) {
            C.due("about(" + i + ")", x.about(i), want[i]);
        }
        for (int i : new int[] {-1, 9, 10, Integer.MIN_VALUE, Integer.MAX_VALUE}) {
            C.due("about(" + i + ")", x.about(i), -1);
        }
    }

    private static void twoObjects() {
        PictureAgency x = new PictureAgency();
        PictureAgency y = new PictureAgency();
        x.word(-1);
        x.picture(1, 0, 0L, 0);
        x.rate(0, 7);
        x.minute(3);
        C.due("about(0) of another", y.about(0), 0);
        C.due("about(1) of another", y.about(1), 0);
        C.due("about(2) of another", y.about(2), 0);
        y.picture(1, 0, 0L, 0);
        y.sale(0, 0, 0, 1, -1, -1);
        C.due("saleOf(0, 6) of another", y.saleOf(0, 6), 100);
    }
}
