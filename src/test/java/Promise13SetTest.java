/**
 * Promise 13, set: "The FIRST of a PICTURE's SET (what 0), how many are in it (1). NONE for others."
 */
public final class Promise13SetTest {
    private static final Checks C = new Checks("Promise13SetTest");

    public static void main(String[] args) {
        alone();
        atMostLimit();
        chains();
        chainOfForty();
        takenEarliest();
        likeOnesTheLeast();
        otherPicture();
        otherWhat();
        C.finish();
    }

    private static void alone() {
        Run x = new Run(C, "how many are in it: one alone");
        x.due("picture(0, 5, 0, 0)", 0);
        x.due("set(0, 0)", 0);
        x.due("set(0, 1)", 1);
        x.due("picture(0, 0, -1, 0)", 1);
        x.due("set(0, 0)", 0);
        x.due("set(0, 1)", 1);
        x.due("set(1, 0)", 1);
        x.due("set(1, 1)", 1);
    }

    private static void atMostLimit() {
        Run x = new Run(C, "those that are at most LIMIT FAR from one another are of one SET");
        x.due("picture(0, 9, 0, 0)", 0);
        x.due("picture(0, 8, " + 0x5L + ", 0)", 1);
        x.yes("limit(4)");
        x.due("set(0, 1)", 1);
        x.due("set(0, 0)", 0);
        x.yes("limit(5)");
        x.due("set(0, 1)", 2);
        x.due("set(0, 0)", 1);
        x.due("set(1, 1)", 2);
        x.yes("limit(6)");
        x.due("set(0, 1)", 2);
        x.yes("limit(4)");
        x.due("set(0, 1)", 1);
    }

    private static void chains() {
        Run x = new Run(C, "and all that a chain of such leads to");
        x.due("picture(0, 9, " + 0x0000L + ", 0)", 0);
        x.due("picture(0, 3, " + 0x0AAAL + ", 0)", 1);
        x.due("picture(0, 8, " + 0x000AL + ", 0)", 2);
        x.due("set(0, 1)", 2);
        x.due("set(1, 1)", 1);
        x.due("picture(0, 7, " + 0x00AAL + ", 0)", 3);
        for (int i = 0; i < 4; i++) {
            x.due("set(" + i + ", 0)", 1);
            x.due("set(" + i + ", 1)", 4);
        }
        x.yes("limit(9)");
        for (int i = 0; i < 4; i++) {
            x.due("set(" + i + ", 0)", i);
            x.due("set(" + i + ", 1)", 1);
        }
    }

    private static void chainOfForty() {
        Run x = new Run(C, "all that a chain leads to, through 40 PICTURES in no order");
        for (int i = 0; i < 40; i++) {
            x.due("picture(0, " + (i * 7 % 40) + ", " + gridOfSum(6 * (i * 7 % 40)) + ", 0)", i);
        }
        x.yes("limit(6)");
        for (int i = 0; i < 40; i++) {
            x.due("set(" + i + ", 1)", 40);
            x.due("set(" + i + ", 0)", 0);
        }
        x.yes("limit(5)");
        x.due("set(0, 1)", 1);
        x.due("set(39, 1)", 1);
        x.due("set(39, 0)", 39);
        x.none("set(40, 0)");
    }

    /** A grid whose numbers sum up to this, filled one behind the other. */
    private static long gridOfSum(int sum) {
        long grid = 0L;
        for (int i = 0; i < 16; i++) {
            grid |= (long) Math.max(0, Math.min(15, sum - 15 * i)) << 4 * i;
        }
        return grid;
    }

    private static void takenEarliest() {
        Run x = new Run(C, "The FIRST of a SET: taken earliest");
        x.due("picture(0, 100000, 0, 0)", 0);
        x.due("set(0, 0)", 0);
        x.due("picture(0, 99999, 0, 0)", 1);
        x.due("set(0, 0)", 1);
        x.due("picture(0, 1, 0, 0)", 2);
        x.due("picture(0, 0, 0, 0)", 3);
        x.due("picture(0, 2, 0, 0)", 4);
        x.due("set(0, 0)", 3);
        x.due("set(4, 0)", 3);
        x.due("picture(0, 0, -1, 0)", 5);
        x.due("set(0, 0)", 3);
        x.due("set(5, 0)", 5);
    }

    private static void likeOnesTheLeast() {
        Run x = new Run(C, "The FIRST, of like ones the least number");
        x.due("picture(0, 7, 0, 0)", 0);
        x.due("picture(0, 5, 0, 0)", 1);
        x.due("picture(0, 5, 0, 0)", 2);
        x.due("picture(0, 6, 0, 0)", 3);
        for (int i = 0; i < 4; i++) {
            x.due("set(" + i + ", 0)", 1);
        }
    }

    private static void otherPicture() {
        Run x = new Run(C, "NONE for others: no such PICTURE");
        x.none("set(0, 0)");
        x.none("set(0, 1)");
        x.pictures(2);
        x.due("set(1, 1)", 2);
        for (String picture : new String[] {"2", "-1", "40", "MIN", "MAX"}) {
            x.none("set(" + picture + ", 0)");
            x.none("set(" + picture + ", 1)");
        }
    }

    private static void otherWhat() {
        Run x = new Run(C, "NONE for others: what");
        x.pictures(1);
        x.due("set(0, 0)", 0);
        x.due("set(0, 1)", 1);
        x.none("set(0, 2)");
        x.none("set(0, -1)");
        x.none("set(0, MIN)");
        x.none("set(0, MAX)");
    }
}
