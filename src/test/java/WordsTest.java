/** Promises 3, 4 and 5: words, where they are put, and where they lay at a minute. */
public final class WordsTest {
    private static final Checks C = new Checks("WordsTest");

    public static void main(String[] args) {
        making();
        atMostForty();
        putting();
        notBelowItself();
        atMostHundredPuttings();
        asAtAMinute();
        sameMinute();
        C.finish();
    }

    private static void making() {
        PictureAgency x = new PictureAgency();
        C.due("word(0)", x.word(0), -1);
        C.due("word(-2)", x.word(-2), -1);
        C.due("word(MIN)", x.word(Integer.MIN_VALUE), -1);
        C.due("word(MAX)", x.word(Integer.MAX_VALUE), -1);
        C.due("word(-1)", x.word(-1), 0);
        C.due("word(1)", x.word(1), -1);
        C.due("word(0)", x.word(0), 1);
        C.due("word(1)", x.word(1), 2);
        C.due("word(0)", x.word(0), 3);
        C.due("within(0, 0)", x.within(0, 0), -1);
        C.due("within(1, 0)", x.within(1, 0), 0);
        C.due("within(2, 0)", x.within(2, 0), 1);
        C.due("within(3, 0)", x.within(3, 0), 0);
        C.due("within(4, 0)", x.within(4, 0), -1);
        C.due("within(-1, 0)", x.within(-1, 0), -1);
        C.due("within(MIN, 0)", x.within(Integer.MIN_VALUE, 0), -1);
        C.due("within(MAX, 0)", x.within(Integer.MAX_VALUE, 0), -1);
    }

    private static void atMostForty() {
        PictureAgency x = new PictureAgency();
        for (int i = 0; i < 40; i++) {
            C.due("word " + i, x.word(i - 1), i);
        }
        C.due("word 40", x.word(-1), -1);
        C.due("about(0)", x.about(0), 40);
        C.due("within(39, 0)", x.within(39, 0), 38);
        C.no("put(0, 39)", x.put(0, 39));
        C.yes("put(39, 0)", x.put(39, 0));
        C.yes("put(38, 39)", x.put(38, 39));
        C.no("put(39, 38)", x.put(39, 38));
    }

    private static void putting() {
        PictureAgency x = new PictureAgency();
        x.word(-1);
        x.word(-1);
        C.yes("put(1, 0)", x.put(1, 0));
        C.due("within(1, 0)", x.within(1, 0), 0);
        C.yes("put(1, 0) where it lies", x.put(1, 0));
        C.yes("put(1, -1)", x.put(1, -1));
        C.due("within(1, 0)", x.within(1, 0), -1);
        C.no("put(2, 0)", x.put(2, 0));
        C.no("put(0, 2)", x.put(0, 2));
        C.no("put(-1, 0)", x.put(-1, 0));
        C.no("put(-1, -1)", x.put(-1, -1));
        C.no("put(0, -2)", x.put(0, -2));
        C.no("put(MIN, MAX)", x.put(Integer.MIN_VALUE, Integer.MAX_VALUE));
    }

    private static void notBelowItself() {
        PictureAgency x = new PictureAgency();
        x.word(-1);
        x.word(0);
        x.word(1);
        x.word(-1);
        C.no("put(0, 0)", x.put(0, 0));
        C.no("put(0, 1)", x.put(0, 1));
        C.no("put(0, 2)", x.put(0, 2));
        C.yes("put(0, 3)", x.put(0, 3));
        C.no("put(3, 2)", x.put(3, 2));
        x.minute(4);
        C.yes("put(1, -1)", x.put(1, -1));
        C.yes("put(0, 2): it is not below itself any more", x.put(0, 2));
        C.no("put(1, 0)", x.put(1, 0));
        C.due("within(0, 3)", x.within(0, 3), 3);
        C.due("within(0, 4)", x.within(0, 4), 2);
    }

    private static void atMostHundredPuttings() {
        PictureAgency x = new PictureAgency();
        x.word(-1);
        x.word(0);
        for (int i = 0; i < 50; i++) {
            C.yes("put(1, -1)", x.put(1, -1));
            C.no("put(1, 1), which is no putting", x.put(1, 1));
            C.yes("put(1, 0)", x.put(1, 0));
        }
        C.no("put(1, -1) as the 101st", x.put(1, -1));
        C.due("within(1, 0)", x.within(1, 0), 0);
        C.due("word(1)", x.word(1), 2);
        C.due("within(2, 0)", x.within(2, 0), 1);
    }

    private static void asAtAMinute() {
        PictureAgency x = new PictureAgency();
        x.word(-1);
        x.word(-1);
        x.minute(10);
        x.word(0);
        C.due("within(2, 9): it wasn't there", x.within(2, 9), -1);
        C.due("within(2, 10)", x.within(2, 10), 0);
        x.minute(20);
        x.put(2, 1);
        C.due("within(2, 9)", x.within(2, 9), -1);
        C.due("within(2, 19)", x.within(2, 19), 0);
        C.due("within(2, 20)", x.within(2, 20), 1);
        C.due("within(2, 21)", x.within(2, 21), -1);
        C.due("within(2, -1)", x.within(2, -1), -1);
        C.due("within(2, MIN)", x.within(2, Integer.MIN_VALUE), -1);
        C.due("within(2, MAX)", x.within(2, Integer.MAX_VALUE), -1);
        x.minute(30);
        C.due("within(2, 30)", x.within(2, 30), 1);
        x.put(2, -1);
        C.due("within(2, 30)", x.within(2, 30), -1);
        C.due("within(2, 29)", x.within(2, 29), 1);
    }

    private static void sameMinute() {
        PictureAgency x = new PictureAgency();
        x.word(-1);
        x.word(-1);
        x.word(0);
        x.minute(5);
        x.put(2, 1);
        x.put(2, -1);
        x.put(2, 1);
        C.due("within(2, 5): the latest counts", x.within(2, 5), 1);
        C.due("within(2, 4)", x.within(2, 4), 0);
    }
}
