/**
 * Promise 16, known: "A PICTURE's EMBARGO (person false), or (1, 0) a PERSON's LEAVE, as known at a MINUTE (0 to the
 * clock's). NONE for others."
 */
public final class Promise16KnownTest {
    private static final Checks C = new Checks("Promise16KnownTest");

    public static void main(String[] args) {
        embargoes();
        leaves();
        atFirst();
        zeroToTheClocks();
        lastMinute();
        otherPicture();
        otherPerson();
        C.finish();
    }

    private static void embargoes() {
        Run x = new Run(C, "A PICTURE's EMBARGO, as known at a MINUTE");
        x.pictures(2);
        x.yes("minute(10)");
        x.yes("embargo(1, 100000)");
        x.yes("minute(20)");
        x.yes("embargo(1, 15)");
        x.yes("embargo(0, 1)");
        x.yes("minute(30)");
        int[] minutes = {0, 9, 10, 19, 20, 30};
        int[] want = {0, 0, 100000, 100000, 15, 15};
        for (int i = 0; i < minutes.length; i++) {
            x.due("known(1, " + minutes[i] + ", false)", want[i]);
            x.due("known(0, " + minutes[i] + ", false)", minutes[i] < 20 ? 0 : 1);
        }
    }

    private static void leaves() {
        Run x = new Run(C, "(1, 0) a PERSON's LEAVE, as known at a MINUTE");
        x.yes("minute(10)");
        x.yes("leave(15, false)");
        x.yes("minute(20)");
        x.yes("leave(15, true)");
        x.yes("leave(0, false)");
        x.yes("minute(30)");
        int[] minutes = {0, 9, 10, 19, 20, 30};
        int[] want = {1, 1, 0, 0, 1, 1};
        for (int i = 0; i < minutes.length; i++) {
            x.due("known(15, " + minutes[i] + ", true)", want[i]);
            x.due("known(0, " + minutes[i] + ", true)", minutes[i] < 20 ? 1 : 0);
            x.due("known(1, " + minutes[i] + ", true)", 1);
        }
    }

    private static void atFirst() {
        Run x = new Run(C, "LEAVE at first given; EMBARGO 0 at first, also ahead of the PICTURE's making");
        x.yes("minute(4)");
        x.pictures(1);
        x.due("known(0, 4, false)", 0);
        x.due("known(0, 0, false)", 0);
        x.yes("embargo(0, 9)");
        x.due("known(0, 3, false)", 0);
        x.due("known(0, 4, false)", 9);
        for (int person = 0; person < 16; person++) {
            x.due("known(" + person + ", 0, true)", 1);
            x.due("known(" + person + ", 4, true)", 1);
        }
    }

    private static void zeroToTheClocks() {
        Run x = new Run(C, "a MINUTE (0 to the clock's)");
        x.pictures(1);
        x.yes("minute(5)");
        x.yes("embargo(0, 7)");
        x.yes("leave(0, false)");
        x.due("known(0, 0, false)", 0);
        x.due("known(0, 0, true)", 1);
        x.due("known(0, 5, false)", 7);
        x.due("known(0, 5, true)", 0);
        for (String minute : new String[] {"-1", "6", "MIN", "MAX"}) {
            x.none("known(0, " + minute + ", false)");
            x.none("known(0, " + minute + ", true)");
        }
    }

    private static void lastMinute() {
        Run x = new Run(C, "a MINUTE (0 to the clock's), at the last one");
        x.pictures(1);
        x.yes("minute(100000)");
        x.due("known(0, 100000, false)", 0);
        x.due("known(0, 100000, true)", 1);
        x.none("known(0, 100001, false)");
        x.none("known(0, 100001, true)");
    }

    private static void otherPicture() {
        Run x = new Run(C, "NONE for others: no such PICTURE");
        x.none("known(0, 0, false)");
        x.pictures(2);
        x.due("known(1, 0, false)", 0);
        for (String picture : new String[] {"2", "15", "40", "-1", "MIN", "MAX"}) {
            x.none("known(" + picture + ", 0, false)");
        }
    }

    private static void otherPerson() {
        Run x = new Run(C, "NONE for others: no such PERSON, whatever PICTURES there are");
        x.pictures(40);
        x.due("known(15, 0, true)", 1);
        x.due("known(16, 0, false)", 0);
        x.due("known(39, 0, false)", 0);
        for (String person : new String[] {"16", "39", "-1", "MIN", "MAX"}) {
            x.none("known(" + person + ", 0, true)");
        }
    }
}
