/**
 * Promise 6, picture: "A PICTURE; its GRID as 16 numbers of four bits, the first one lowest: its number. NONE for
 * others, or if there are 40."
 */
public final class Promise06PictureTest {
    private static final Checks C = new Checks("Promise06PictureTest");

    public static void main(String[] args) {
        shutter();
        taken();
        gridOfSixteen();
        everyNumberOfTheGrid();
        persons();
        everyPerson();
        thereAreForty();
        C.finish();
    }

    private static void shutter() {
        Run x = new Run(C, "NONE for others: SHUTTER, PERSONS 0 .. 15");
        x.none("picture(-1, 0, 0, 0)");
        x.none("picture(16, 0, 0, 0)");
        x.none("picture(MIN, 0, 0, 0)");
        x.none("picture(MAX, 0, 0, 0)");
        x.due("picture(0, 0, 0, 0)", 0);
        x.due("picture(15, 1, 1048575, 0)", 1);
        x.none("picture(-1, 0, 0, 0)");
        x.none("picture(16, 0, 0, 0)");
        x.due("sale(0, 0, 0, 1, -1, -1)", 0);
        x.due("sale(1, 0, 0, 1, -1, -1)", 1);
        x.due("got(0)", 50);
        x.due("got(15)", 50);
    }

    private static void taken() {
        Run x = new Run(C, "NONE for others: the MINUTE at which it was taken (any 0 .. 100000)");
        x.none("picture(0, -1, 0, 0)");
        x.none("picture(0, 100001, 0, 0)");
        x.none("picture(0, MIN, 0, 0)");
        x.none("picture(0, MAX, 0, 0)");
        x.due("picture(0, 100000, 0, 0)", 0);
        x.due("picture(0, 99999, 0, 0)", 1);
        x.due("set(0, 0)", 1);
        x.due("picture(0, 0, 0, 0)", 2);
        x.due("set(0, 0)", 2);
        x.yes("minute(9)");
        x.due("picture(0, 10, 0, 0)", 3);
        x.due("picture(0, 8, 0, 0)", 4);
        x.due("about(1)", 5);
    }

    private static void gridOfSixteen() {
        Run x = new Run(C, "its GRID as 16 numbers of four bits");
        x.due("picture(0, 0, 0, 0)", 0);
        x.due("picture(0, 0, -1, 0)", 1);
        x.due("picture(0, 0, MIN, 0)", 2);
        x.due("picture(0, 0, MAX, 0)", 3);
        x.due("picture(0, 0, 16, 0)", 4);
        x.due("picture(0, 0, 15, 0)", 5);
        x.due("far(0, 1)", 240);
        x.due("far(0, 2)", 8);
        x.due("far(0, 3)", 232);
        x.due("far(2, 3)", 226);
        x.due("far(1, 2)", 232);
        x.due("far(4, 5)", 16);
        x.due("far(0, 4)", 1);
        x.due("far(0, 5)", 15);
    }

    private static void everyNumberOfTheGrid() {
        Run x = new Run(C, "its GRID: each of the 16 numbers, up to 15");
        x.due("picture(0, 0, 0, 0)", 0);
        for (int i = 0; i < 16; i++) {
            x.due("picture(0, 0, " + (15L << 4 * i) + ", 0)", 2 * i + 1);
            x.due("picture(0, 0, " + (1L << 4 * i) + ", 0)", 2 * i + 2);
            x.due("far(0, " + (2 * i + 1) + ")", 15);
            x.due("far(0, " + (2 * i + 2) + ")", 1);
            x.due("far(" + (2 * i + 1) + ", " + (2 * i + 2) + ")", 14);
        }
        x.due("far(1, 31)", 30);
    }

    private static void persons() {
        Run x = new Run(C, "NONE for others: PERSONS that are on it (a set: bits), 0 .. 15");
        x.none("picture(0, 0, 0, -1)");
        x.none("picture(0, 0, 0, 65536)");
        x.none("picture(0, 0, 0, 65537)");
        x.none("picture(0, 0, 0, MIN)");
        x.none("picture(0, 0, 0, MAX)");
        x.due("picture(0, 0, 0, 0)", 0);
        x.due("picture(0, 0, 0, 65535)", 1);
        x.yes("leave(15, false)");
        x.uses("0, 0, 0, 1, -1", 0, -1);
        x.uses("1, 0, 0, 1, -1", 3, 15);
    }

    private static void everyPerson() {
        for (int person = 0; person < 16; person++) {
            Run x = new Run(C, "PERSONS that are on it (a set: bits): person " + person);
            x.due("picture(0, 0, 0, " + (1 << person) + ")", 0);
            x.due("picture(0, 0, 0, " + (65535 ^ 1 << person) + ")", 1);
            x.yes("leave(" + person + ", false)");
            x.uses("0, 0, 0, 1, -1", 3, person);
            x.uses("1, 0, 0, 1, -1", 0, -1);
        }
    }

    private static void thereAreForty() {
        Run x = new Run(C, "NONE if there are 40");
        x.pictures(39);
        x.due("about(1)", 39);
        x.none("picture(16, 0, 0, 0)");
        x.due("picture(15, 100000, -1, 65535)", 39);
        x.due("about(1)", 40);
        x.none("picture(0, 0, 0, 0)");
        x.none("picture(15, 100000, -1, 65535)");
        x.due("about(1)", 40);
        x.due("far(0, 39)", 240);
        x.yes("minute(1)");
        x.none("picture(0, 0, 0, 0)");
    }
}
