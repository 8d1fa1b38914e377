/** Promises 11, 12 and 13: how far pictures are from one another, and their sets. */
public final class LikenessTest {
    private static final Checks C = new Checks("LikenessTest");

    public static void main(String[] args) {
        far();
        limit();
        chains();
        firsts();
        fortyInAChain();
        C.finish();
    }

    private static void far() {
        PictureAgency x = new PictureAgency();
        x.picture(0, 0, 0L, 0);
        x.picture(0, 0, -1L, 0);
        x.picture(0, 0, 0xF000000000000000L, 0);
        x.picture(0, 0, 0x123456789ABCDEF0L, 0);
        x.picture(0, 0, 0x0FEDCBA987654321L, 0);
        C.due("far(0, 0)", x.far(0, 0), 0);
        C.due("far(1, 1)", x.far(1, 1), 0);
        C.due("far(0, 1)", x.far(0, 1), 240);
        C.due("far(1, 0)", x.far(1, 0), 240);
        C.due("far(0, 2)", x.far(0, 2), 15);
        C.due("far(2, 1)", x.far(2, 1), 225);
        C.due("far(0, 3)", x.far(0, 3), 120);
        C.due("far(3, 4)", x.far(3, 4), 1 + 13 + 11 + 9 + 7 + 5 + 3 + 1 + 1 + 3 + 5 + 7 + 9 + 11 + 13 + 1);
        C.due("far(0, 5)", x.far(0, 5), -1);
        C.due("far(5, 0)", x.far(5, 0), -1);
        C.due("far(-1, 0)", x.far(-1, 0), -1);
        C.due("far(0, -1)", x.far(0, -1), -1);
        C.due("far(MIN, MAX)", x.far(Integer.MIN_VALUE, Integer.MAX_VALUE), -1);
    }

    private static void limit() {
        PictureAgency x = new PictureAgency();
        x.picture(0, 0, 0L, 0);
        x.picture(0, 0, 10L, 0);
        x.picture(0, 0, 0xFFFFL, 0);
        x.picture(0, 0, 11L << 32, 0);
        C.due("set(0, 1): ten is near enough, eleven isn't", x.set(0, 1), 2);
        C.no("limit(-1)", x.limit(-1));
        C.no("limit(241)", x.limit(241));
        C.no("limit(MAX)", x.limit(Integer.MAX_VALUE));
        C.due("about(6)", x.about(6), 10);
        C.yes("limit(9)", x.limit(9));
        C.due("set(0, 1)", x.set(0, 1), 1);
        C.yes("limit(11)", x.limit(11));
        C.due("set(0, 1)", x.set(0, 1), 3);
        C.yes("limit(240)", x.limit(240));
        C.due("set(0, 1)", x.set(0, 1), 4);
        C.yes("limit(0)", x.limit(0));
        C.due("set(0, 1)", x.set(0, 1), 1);
        x.picture(0, 0, 0L, 0);
        C.due("set(0, 1): the same grid", x.set(0, 1), 2);
    }

    private static void chains() {
        PictureAgency x = new PictureAgency();
        x.picture(0, 30, 0x00000000L, 0);
        x.picture(0, 20, 0x0000AAAAL, 0);
        C.due("set(0, 1)", x.set(0, 1), 1);
        x.picture(0, 40, 0x000000AAL, 0);
        x.picture(0, 10, 0x00000AAAL, 0);
        C.due("set(0, 1)", x.set(0, 1), 1);
        C.due("set(1, 1)", x.set(1, 1), 3);
        x.picture(0, 50, 0x0000000AL, 0);
        C.due("set(0, 1): now a chain leads through", x.set(0, 1), 5);
        for (int i = 0; i < 5; i++) {
            C.due("set(" + i + ", 0)", x.set(i, 0), 3);
            C.due("set(" + i + ", 1)", x.set(i, 1), 5);
        }
        C.due("set(5, 0)", x.set(5, 0), -1);
        C.due("set(-1, 1)", x.set(-1, 1), -1);
        C.due("set(0, 2)", x.set(0, 2), -1);
        C.due("set(0, -1)", x.set(0, -1), -1);
    }

    private static void firsts() {
        PictureAgency x = new PictureAgency();
        x.picture(0, 7, 0L, 0);
        x.picture(0, 5, 1L, 0);
        x.picture(0, 5, 2L, 0);
        x.picture(0, 0, -1L, 0);
        C.due("set(2, 0): of like ones the least number", x.set(2, 0), 1);
        C.due("set(0, 0)", x.set(0, 0), 1);
        C.due("set(3, 0)", x.set(3, 0), 3);
        C.due("set(3, 1)", x.set(3, 1), 1);
    }

    private static void fortyInAChain() {
        PictureAgency x = new PictureAgency();
        for (int i = 0; i < 40; i++) {
            // Mixed, so that the chain doesn't run along the numbers.
            int place = i * 7 % 40;
            x.picture(0, 100 - place, gridOfSum(6 * place), 0);
        }
        x.limit(6);
        for (int i = 0; i < 40; i++) {
            C.due("set(" + i + ", 1) of a chain", x.set(i, 1), 40);
            C.due("set(" + i + ", 0) of a chain", x.set(i, 0), 17);
        }
        x.limit(5);
        C.due("set(0, 1)", x.set(0, 1), 1);
        C.due("set(39, 0)", x.set(39, 0), 39);
        x.limit(240);
        C.due("set(0, 1)", x.set(0, 1), 40);
    }

    /** A grid whose numbers are filled up one behind the other till they sum up to this. */
    private static long gridOfSum(int sum) {
        long grid = 0L;
        int left = sum;
        for (int i = 0; i < 16; i++) {
            int number = Math.min(left, 15);
            grid |= (long) number << 4 * i;
            left -= number;
        }
        return grid;
    }
}
