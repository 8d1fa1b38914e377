/** Promises 14, 15 and 16: leaves and embargoes, and what was known of them. */
public final class RightsTest {
    private static final Checks C = new Checks("RightsTest");

    public static void main(String[] args) {
        leaves();
        embargoes();
        atMostHundred();
        C.finish();
    }

    private static void leaves() {
        PictureAgency x = new PictureAgency();
        C.no("leave(-1, true)", x.leave(-1, true));
        C.no("leave(16, true)", x.leave(16, true));
        C.no("leave(MIN, true)", x.leave(Integer.MIN_VALUE, true));
        x.minute(10);
        C.yes("leave(3, false)", x.leave(3, false));
        x.minute(20);
        C.yes("leave(3, true)", x.leave(3, true));
        C.yes("leave(3, true) again", x.leave(3, true));
        x.minute(30);
        C.yes("leave(3, true)", x.leave(3, true));
        C.yes("leave(3, false)", x.leave(3, false));
        C.yes("leave(15, false)", x.leave(15, false));
        int[] minutes = {0, 9, 10, 19, 20, 29, 30};
        int[] want = {1, 1, 0, 0, 1, 1, 0};
        for (int i = 0; i < minutes.length; i++) {
            C.due("known(3, " + minutes[i] + ", true)", x.known(3, minutes[i], true), want[i]);
            C.due("known(4, " + minutes[i] + ", true)", x.known(4, minutes[i], true), 1);
        }
        C.due("known(15, 30, true)", x.known(15, 30, true), 0);
        C.due("known(0, 30, true)", x.known(0, 30, true), 1);
        C.due("known(3, 31, true)", x.known(3, 31, true), -1);
        C.due("known(3, -1, true)", x.known(3, -1, true), -1);
        C.due("known(16, 0, true)", x.known(16, 0, true), -1);
        C.due("known(-1, 0, true)", x.known(-1, 0, true), -1);
    }

    private static void embargoes() {
        PictureAgency x = new PictureAgency();
        C.no("embargo(0, 5)", x.embargo(0, 5));
        x.minute(2);
        x.picture(0, 0, 0L, 0);
        x.picture(0, 0, 0L, 0);
        C.yes("embargo(0, 100000)", x.embargo(0, 100000));
        C.no("embargo(0, 100001)", x.embargo(0, 100001));
        C.no("embargo(0, -1)", x.embargo(0, -1));
        C.no("embargo(2, 5)", x.embargo(2, 5));
        C.no("embargo(-1, 5)", x.embargo(-1, 5));
        x.minute(10);
        C.yes("embargo(0, 7)", x.embargo(0, 7));
        C.yes("embargo(0, 9)", x.embargo(0, 9));
        x.minute(11);
        C.yes("embargo(0, 0)", x.embargo(0, 0));
        C.due("known(0, 1, false)", x.known(0, 1, false), 0);
        C.due("known(0, 2, false)", x.known(0, 2, false), 100000);
        C.due("known(0, 9, false)", x.known(0, 9, false), 100000);
        C.due("known(0, 10, false)", x.known(0, 10, false), 9);
        C.due("known(0, 11, false)", x.known(0, 11, false), 0);
        C.due("known(0, 12, false)", x.known(0, 12, false), -1);
        C.due("known(0, -1, false)", x.known(0, -1, false), -1);
        C.due("known(1, 11, false)", x.known(1, 11, false), 0);
        C.due("known(2, 0, false)", x.known(2, 0, false), -1);
        C.due("known(-1, 0, false)", x.known(-1, 0, false), -1);
    }

    private static void atMostHundred() {
        PictureAgency x = new PictureAgency();
        x.picture(0, 0, 0L, 0);
        for (int i = 0; i < 100; i++) {
            C.yes("leave " + i, x.leave(i % 16, i % 3 == 0));
            C.yes("embargo " + i, x.embargo(0, i));
            C.no("no leave", x.leave(16, true));
            C.no("no embargo", x.embargo(0, -1));
        }
        C.no("leave 100", x.leave(0, true));
        C.no("embargo 100", x.embargo(0, 5));
        C.due("known(0, 0, false)", x.known(0, 0, false), 99);
        C.due("known(3, 0, true)", x.known(3, 0, true), 1);
        C.due("known(0, 0, true)", x.known(0, 0, true), 1);
        C.due("known(1, 0, true)", x.known(1, 0, true), 0);
    }
}
