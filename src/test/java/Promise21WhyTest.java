/** Promise 21, why: "WHY a USE isn't LET at the MINUTE at hand (0: it is). NONE for others." */
public final class Promise21WhyTest {
    private static final Checks C = new Checks("Promise21WhyTest");

    public static void main(String[] args) {
        itIs();
        otherPicture();
        otherLand();
        otherUse();
        otherSize();
        otherBeside();
        othersAheadOfAll();
        embargoIsLater();
        someText();
        besideAsAtThatMinute();
        noLeave();
        shuts();
        shutsForItsSet();
        shutsByNow();
        firstOfThem();
        C.finish();
    }

    private static void itIs() {
        Run x = new Run(C, "(0: it is)");
        x.words(1);
        x.due("picture(0, 100000, -1, 65535)", 0);
        x.due("why(0, 0, 0, 1, -1)", 0);
        x.due("why(0, 9, 4, 1000, 0)", 0);
        x.yes("minute(100000)");
        x.due("why(0, 9, 4, 1000, 0)", 0);
    }

    private static void otherPicture() {
        Run x = new Run(C, "NONE for others: no such PICTURE");
        x.none("why(0, 0, 0, 1, -1)");
        x.pictures(2);
        x.due("why(1, 0, 0, 1, -1)", 0);
        for (String picture : new String[] {"2", "-1", "40", "MIN", "MAX"}) {
            x.none("why(" + picture + ", 0, 0, 1, -1)");
        }
    }

    private static void otherLand() {
        Run x = new Run(C, "NONE for others: a land (0 .. 9)");
        x.pictures(1);
        x.due("why(0, 0, 0, 1, -1)", 0);
        x.due("why(0, 9, 0, 1, -1)", 0);
        for (String land : new String[] {"10", "-1", "MIN", "MAX"}) {
            x.none("why(0, " + land + ", 0, 1, -1)");
        }
    }

    private static void otherUse() {
        Run x = new Run(C, "NONE for others: a use (0 .. 4)");
        x.pictures(1);
        x.due("why(0, 0, 0, 1, -1)", 0);
        x.due("why(0, 0, 4, 1, -1)", 0);
        for (String use : new String[] {"5", "-1", "MIN", "MAX"}) {
            x.none("why(0, 0, " + use + ", 1, -1)");
        }
    }

    private static void otherSize() {
        Run x = new Run(C, "NONE for others: a size (1 .. 1000)");
        x.pictures(1);
        x.due("why(0, 0, 0, 1, -1)", 0);
        x.due("why(0, 0, 0, 1000, -1)", 0);
        for (String size : new String[] {"0", "1001", "-1", "MIN", "MAX"}) {
            x.none("why(0, 0, 0, " + size + ", -1)");
        }
    }

    private static void otherBeside() {
        Run x = new Run(C, "NONE for others: a WORD beside which it stands (or none)");
        x.pictures(1);
        x.due("why(0, 0, 0, 1, -1)", 0);
        x.none("why(0, 0, 0, 1, 0)");
        x.words(2);
        x.due("why(0, 0, 0, 1, 1)", 0);
        for (String word : new String[] {"2", "-2", "40", "MIN", "MAX"}) {
            x.none("why(0, 0, 0, 1, " + word + ")");
        }
    }

    private static void othersAheadOfAll() {
        Run x = new Run(C, "NONE for others, also where it isn't LET");
        x.due("picture(0, 0, 0, 1)", 0);
        x.yes("embargo(0, 5)");
        x.text(0, "land 1;", 1);
        x.yes("leave(0, false)");
        x.due("why(0, 0, 0, 1, -1)", 1);
        x.none("why(0, 10, 0, 1, -1)");
        x.none("why(0, 0, 5, 1, -1)");
        x.none("why(0, 0, 0, 0, -1)");
        x.none("why(0, 0, 0, 1001, -1)");
        x.none("why(0, 0, 0, 1, 0)");
        x.none("why(1, 0, 0, 1, -1)");
    }

    private static void embargoIsLater() {
        Run x = new Run(C, "1 the EMBARGO is later: nothing is let ahead of that MINUTE");
        x.pictures(2);
        x.yes("embargo(0, 0)");
        x.due("why(0, 0, 0, 1, -1)", 0);
        x.yes("embargo(0, 1)");
        x.due("why(0, 0, 0, 1, -1)", 1);
        x.due("why(1, 0, 0, 1, -1)", 0);
        x.yes("minute(1)");
        x.due("why(0, 0, 0, 1, -1)", 0);
        x.yes("embargo(0, 100000)");
        x.yes("minute(99999)");
        x.due("why(0, 0, 0, 1, -1)", 1);
        x.yes("minute(100000)");
        x.due("why(0, 0, 0, 1, -1)", 0);
    }

    private static void someText() {
        Run x = new Run(C, "2 some TEXT doesn't let it");
        x.pictures(2);
        x.text(0, "land 1 2;", 1);
        x.text(0, "land 2 3; most 10;", 2);
        x.text(0, "use 4; days 5 6;", 3);
        x.due("why(0, 2, 4, 10, -1)", 2);
        x.due("why(1, 0, 0, 1000, -1)", 0);
        x.yes("minute(5)");
        x.due("why(0, 2, 4, 10, -1)", 0);
        x.due("why(0, 2, 4, 11, -1)", 2);
        x.due("why(0, 1, 4, 10, -1)", 2);
        x.due("why(0, 3, 4, 10, -1)", 2);
        x.due("why(0, 2, 3, 10, -1)", 2);
        x.yes("minute(6)");
        x.due("why(0, 2, 4, 10, -1)", 0);
        x.yes("minute(7)");
        x.due("why(0, 2, 4, 10, -1)", 2);
    }

    private static void besideAsAtThatMinute() {
        Run x = new Run(C, "2: BELOW one as at that MINUTE");
        x.words(2);
        x.pictures(1);
        x.text(0, "not 0;", 1);
        x.due("why(0, 0, 0, 1, 0)", 2);
        x.due("why(0, 0, 0, 1, 1)", 0);
        x.yes("put(1, 0)");
        x.due("why(0, 0, 0, 1, 1)", 2);
        x.yes("minute(1)");
        x.yes("put(1, -1)");
        x.due("why(0, 0, 0, 1, 1)", 0);
        x.due("why(0, 0, 0, 1, -1)", 0);
    }

    private static void noLeave() {
        Run x = new Run(C, "3 a PERSON on it has no LEAVE");
        x.due("picture(3, 0, 0, 32769)", 0);
        x.yes("leave(3, false)");
        x.yes("leave(1, false)");
        x.yes("leave(14, false)");
        x.due("why(0, 0, 0, 1, -1)", 0);
        x.yes("leave(0, false)");
        x.due("why(0, 0, 0, 1, -1)", 3);
        x.yes("leave(0, true)");
        x.due("why(0, 0, 0, 1, -1)", 0);
        x.yes("leave(15, false)");
        x.due("why(0, 0, 0, 1, -1)", 3);
    }

    private static void shuts() {
        Run x = new Run(C, "4 a SALE that isn't struck SHUTS this land till this MINUTE or later");
        x.pictures(1);
        x.yes("minute(4)");
        x.due("sale(0, 3, 0, 1, -1, -1)", 0);
        x.due("why(0, 3, 0, 1, -1)", 0);
        x.due("sale(0, 3, 0, 1, -1, 6)", 1);
        x.due("why(0, 3, 4, 1000, -1)", 4);
        x.due("why(0, 2, 0, 1, -1)", 0);
        x.due("why(0, 4, 0, 1, -1)", 0);
        x.yes("minute(6)");
        x.due("why(0, 3, 0, 1, -1)", 4);
        x.yes("minute(7)");
        x.due("why(0, 3, 0, 1, -1)", 0);
        x.due("sale(0, 3, 0, 1, -1, 7)", 2);
        x.due("why(0, 3, 0, 1, -1)", 4);
        x.yes("strike(2)");
        x.due("why(0, 3, 0, 1, -1)", 0);
    }

    private static void shutsForItsSet() {
        Run x = new Run(C, "4 SHUTS this land for a PICTURE of its SET");
        x.due("picture(0, 0, 0, 0)", 0);
        x.due("picture(0, 0, " + 0xAL + ", 0)", 1);
        x.due("picture(0, 0, " + 0xAAL + ", 0)", 2);
        x.due("picture(0, 0, " + 0xBAAL + ", 0)", 3);
        x.due("sale(0, 3, 0, 1, -1, 100000)", 0);
        x.due("why(0, 3, 0, 1, -1)", 4);
        x.due("why(1, 3, 0, 1, -1)", 4);
        x.due("why(2, 3, 0, 1, -1)", 4);
        x.due("why(3, 3, 0, 1, -1)", 0);
        x.yes("minute(100000)");
        x.due("why(2, 3, 0, 1, -1)", 4);
    }

    private static void shutsByNow() {
        Run x = new Run(C, "4 its SET (as LIKE is by now)");
        x.due("picture(0, 0, 0, 0)", 0);
        x.due("picture(0, 0, " + 0xAAL + ", 0)", 1);
        x.due("sale(0, 3, 0, 1, -1, 9)", 0);
        x.due("why(1, 3, 0, 1, -1)", 0);
        x.yes("limit(20)");
        x.due("why(1, 3, 0, 1, -1)", 4);
        x.yes("limit(19)");
        x.due("why(1, 3, 0, 1, -1)", 0);
        x.yes("limit(10)");
        x.due("picture(0, 0, " + 0xAL + ", 0)", 2);
        x.due("why(1, 3, 0, 1, -1)", 4);
        x.yes("limit(9)");
        x.due("why(1, 3, 0, 1, -1)", 0);
        x.due("why(0, 3, 0, 1, -1)", 4);
    }

    private static void firstOfThem() {
        Run x = new Run(C, "the first of 1, 2, 3, 4");
        x.due("picture(0, 0, 0, 1)", 0);
        x.due("sale(0, 0, 0, 1, -1, 100000)", 0);
        x.due("why(0, 0, 0, 1, -1)", 4);
        x.yes("leave(0, false)");
        x.due("why(0, 0, 0, 1, -1)", 3);
        x.text(0, "land 1;", 1);
        x.due("why(0, 0, 0, 1, -1)", 2);
        x.due("why(0, 1, 0, 1, -1)", 3);
        x.yes("embargo(0, 1)");
        x.due("why(0, 0, 0, 1, -1)", 1);
        x.yes("minute(1)");
        x.due("why(0, 0, 0, 1, -1)", 2);
        x.yes("leave(0, true)");
        x.due("why(0, 0, 0, 1, -1)", 2);
        x.due("why(0, 1, 0, 1, -1)", 0);
    }
}
