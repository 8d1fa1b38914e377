/** Promises 21 and 22: why a use isn't let, and by what. */
public final class UsesTest {
    private static final Checks C = new Checks("UsesTest");

    public static void main(String[] args) {
        others();
        byEmbargo();
        byText();
        besideWords();
        severalTexts();
        byPerson();
        bySale();
        theFirstReason();
        C.finish();
    }

    private static PictureAgency withPicture(int persons) {
        PictureAgency x = new PictureAgency();
        x.picture(0, 0, 0L, persons);
        return x;
    }

    private static void answers(PictureAgency x, int[] use, int why, int by) {
        String call = "(" + use[0] + ", " + use[1] + ", " + use[2] + ", " + use[3] + ", " + use[4] + ")";
        C.due("why" + call, x.why(use[0], use[1], use[2], use[3], use[4]), why);
        C.due("by" + call, x.by(use[0], use[1], use[2], use[3], use[4]), by);
    }

    private static int[] use(int picture, int land, int use, int size, int beside) {
        return new int[] {picture, land, use, size, beside};
    }

    private static void others() {
        PictureAgency x = withPicture(65535);
        x.word(-1);
        answers(x, use(0, 0, 0, 1, -1), 0, -1);
        answers(x, use(0, 9, 4, 1000, 0), 0, -1);
        answers(x, use(1, 0, 0, 1, -1), -1, -1);
        answers(x, use(-1, 0, 0, 1, -1), -1, -1);
        answers(x, use(0, 10, 0, 1, -1), -1, -1);
        answers(x, use(0, -1, 0, 1, -1), -1, -1);
        answers(x, use(0, 0, 5, 1, -1), -1, -1);
        answers(x, use(0, 0, -1, 1, -1), -1, -1);
        answers(x, use(0, 0, 0, 0, -1), -1, -1);
        answers(x, use(0, 0, 0, 1001, -1), -1, -1);
        answers(x, use(0, 0, 0, 1, 1), -1, -1);
        answers(x, use(0, 0, 0, 1, -2), -1, -1);
        x.leave(0, false);
        answers(x, use(0, 0, 0, 1, 1), -1, -1);
        answers(x, use(0, 0, 0, 1, 0), 3, 0);
    }

    private static void byEmbargo() {
        PictureAgency x = withPicture(0);
        x.picture(0, 0, 0L, 0);
        x.embargo(0, 10);
        answers(x, use(0, 0, 0, 1, -1), 1, -1);
        answers(x, use(1, 0, 0, 1, -1), 0, -1);
        x.minute(9);
        answers(x, use(0, 0, 0, 1, -1), 1, -1);
        x.minute(10);
        answers(x, use(0, 0, 0, 1, -1), 0, -1);
        x.embargo(0, 11);
        answers(x, use(0, 0, 0, 1, -1), 1, -1);
        x.embargo(0, 3);
        answers(x, use(0, 0, 0, 1, -1), 0, -1);
    }

    private static void byText() {
        PictureAgency x = withPicture(0);
        Checks.textOf(x, 0, "land 0 9; use 4; days 5 8; most 20;");
        answers(x, use(0, 0, 4, 1, -1), 2, 0);
        x.minute(4);
        answers(x, use(0, 0, 4, 1, -1), 2, 0);
        x.minute(5);
        answers(x, use(0, 0, 4, 1, -1), 0, -1);
        answers(x, use(0, 9, 4, 20, -1), 0, -1);
        answers(x, use(0, 9, 4, 21, -1), 2, 0);
        answers(x, use(0, 1, 4, 1, -1), 2, 0);
        answers(x, use(0, 8, 4, 1, -1), 2, 0);
        answers(x, use(0, 0, 0, 1, -1), 2, 0);
        answers(x, use(0, 0, 3, 1, -1), 2, 0);
        x.minute(8);
        answers(x, use(0, 0, 4, 1, -1), 0, -1);
        x.minute(9);
        answers(x, use(0, 0, 4, 1, -1), 2, 0);
    }

    private static void besideWords() {
        PictureAgency x = withPicture(0);
        x.word(-1);
        x.word(0);
        x.word(1);
        x.word(-1);
        x.word(-1);
        Checks.textOf(x, 0, "not 1 4;");
        answers(x, use(0, 0, 0, 1, -1), 0, -1);
        answers(x, use(0, 0, 0, 1, 0), 0, -1);
        answers(x, use(0, 0, 0, 1, 1), 2, 0);
        answers(x, use(0, 0, 0, 1, 2), 2, 0);
        answers(x, use(0, 0, 0, 1, 3), 0, -1);
        answers(x, use(0, 0, 0, 1, 4), 2, 0);
        x.minute(5);
        x.put(2, 3);
        answers(x, use(0, 0, 0, 1, 2), 0, -1);
        x.put(3, 4);
        answers(x, use(0, 0, 0, 1, 2), 2, 0);
        answers(x, use(0, 0, 0, 1, 3), 2, 0);
        x.word(2);
        answers(x, use(0, 0, 0, 1, 5), 2, 0);
    }

    private static void severalTexts() {
        PictureAgency x = withPicture(0);
        x.picture(0, 0, 0L, 0);
        Checks.textOf(x, 0, "most 10;");
        Checks.textOf(x, 0, "land 1 2;");
        Checks.textOf(x, 0, "land 2 3;");
        answers(x, use(0, 2, 0, 10, -1), 0, -1);
        answers(x, use(0, 1, 0, 10, -1), 2, 2);
        answers(x, use(0, 3, 0, 10, -1), 2, 1);
        answers(x, use(0, 0, 0, 10, -1), 2, 1);
        answers(x, use(0, 0, 0, 11, -1), 2, 0);
        answers(x, use(1, 0, 0, 11, -1), 0, -1);
        PictureAgency y = withPicture(0);
        Checks.textOf(y, 0, "");
        answers(y, use(0, 0, 0, 1000, -1), 0, -1);
        Checks.textOf(y, 0, "use 1; land 10;");
        answers(y, use(0, 0, 0, 1000, -1), 0, -1);
    }

    private static void byPerson() {
        PictureAgency x = withPicture(1 << 3 | 1 << 15);
        x.leave(0, false);
        x.leave(4, false);
        answers(x, use(0, 0, 0, 1, -1), 0, -1);
        x.leave(15, false);
        answers(x, use(0, 0, 0, 1, -1), 3, 15);
        x.leave(3, false);
        answers(x, use(0, 0, 0, 1, -1), 3, 3);
        x.minute(7);
        x.leave(3, true);
        answers(x, use(0, 0, 0, 1, -1), 3, 15);
        x.leave(15, true);
        answers(x, use(0, 0, 0, 1, -1), 0, -1);
    }

    private static void bySale() {
        PictureAgency x = withPicture(0);
        x.picture(1, 0, 15L, 0);
        x.minute(5);
        x.sale(0, 2, 0, 1, -1, -1);
        answers(x, use(0, 2, 0, 1, -1), 0, -1);
        x.sale(0, 2, 0, 1, -1, 5);
        answers(x, use(0, 2, 4, 9, -1), 4, 1);
        answers(x, use(0, 3, 0, 1, -1), 0, -1);
        answers(x, use(1, 2, 0, 1, -1), 0, -1);
        x.sale(1, 2, 0, 1, -1, 9);
        answers(x, use(1, 2, 0, 1, -1), 4, 2);
        x.limit(15);
        answers(x, use(1, 2, 0, 1, -1), 4, 1);
        answers(x, use(0, 2, 0, 1, -1), 4, 1);
        x.minute(6);
        answers(x, use(0, 2, 0, 1, -1), 4, 2);
        x.limit(14);
        answers(x, use(0, 2, 0, 1, -1), 0, -1);
        x.limit(15);
        x.minute(9);
        answers(x, use(0, 2, 0, 1, -1), 4, 2);
        x.strike(2);
        answers(x, use(0, 2, 0, 1, -1), 0, -1);
    }

    private static void theFirstReason() {
        PictureAgency x = withPicture(1);
        x.sale(0, 0, 0, 1, -1, 100);
        answers(x, use(0, 0, 0, 1, -1), 4, 0);
        x.leave(0, false);
        answers(x, use(0, 0, 0, 1, -1), 3, 0);
        Checks.textOf(x, 0, "");
        Checks.textOf(x, 0, "use 1;");
        answers(x, use(0, 0, 0, 1, -1), 2, 1);
        x.embargo(0, 1);
        answers(x, use(0, 0, 0, 1, -1), 1, -1);
        x.minute(1);
        answers(x, use(0, 0, 0, 1, -1), 2, 1);
    }
}
