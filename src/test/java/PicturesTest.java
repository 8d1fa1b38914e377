/** Promises 6 to 10: pictures, their captions, and searches. */
public final class PicturesTest {
    private static final Checks C = new Checks("PicturesTest");

    public static void main(String[] args) {
        making();
        captions();
        atMostTwoHundredCaptions();
        hasAndHad();
        belowAsAtTheMinute();
        searching();
        lastNumbers();
        C.finish();
    }

    private static void making() {
        PictureAgency x = new PictureAgency();
        C.due("picture(-1, ..)", x.picture(-1, 0, 0L, 0), -1);
        C.due("picture(16, ..)", x.picture(16, 0, 0L, 0), -1);
        C.due("taken -1", x.picture(0, -1, 0L, 0), -1);
        C.due("taken 100001", x.picture(0, 100001, 0L, 0), -1);
        C.due("persons -1", x.picture(0, 0, 0L, -1), -1);
        C.due("persons 65536", x.picture(0, 0, 0L, 65536), -1);
        C.due("persons MIN", x.picture(0, 0, 0L, Integer.MIN_VALUE), -1);
        C.due("about(1)", x.about(1), 0);
        C.due("picture(15, 100000, MIN, 65535)", x.picture(15, 100000, Long.MIN_VALUE, 65535), 0);
        for (int i = 1; i < 40; i++) {
            C.due("picture " + i, x.picture(0, 0, i, 0), i);
        }
        C.due("picture 40", x.picture(0, 0, 0L, 0), -1);
        C.due("about(1)", x.about(1), 40);
    }

    private static void captions() {
        PictureAgency x = new PictureAgency();
        C.no("caption(0, 0, true)", x.caption(0, 0, true));
        x.picture(0, 0, 0L, 0);
        C.no("caption(0, 0, true)", x.caption(0, 0, true));
        x.word(-1);
        x.word(0);
        C.no("caption(0, 1, false)", x.caption(0, 1, false));
        C.yes("caption(0, 1, true)", x.caption(0, 1, true));
        C.no("caption(0, 1, true)", x.caption(0, 1, true));
        C.no("caption(0, 0, false): it has only one below", x.caption(0, 0, false));
        C.yes("caption(0, 0, true)", x.caption(0, 0, true));
        C.yes("caption(0, 1, false)", x.caption(0, 1, false));
        C.no("caption(0, 1, false)", x.caption(0, 1, false));
        C.yes("caption(0, 1, true)", x.caption(0, 1, true));
        C.no("caption(1, 0, true)", x.caption(1, 0, true));
        C.no("caption(0, 2, true)", x.caption(0, 2, true));
        C.no("caption(-1, 0, true)", x.caption(-1, 0, true));
        C.no("caption(0, -1, true)", x.caption(0, -1, true));
        C.no("caption(-1, 40, true)", x.caption(-1, 40, true));
        C.no("caption(MAX, MIN, true)", x.caption(Integer.MAX_VALUE, Integer.MIN_VALUE, true));
    }

    private static void atMostTwoHundredCaptions() {
        PictureAgency x = new PictureAgency();
        x.word(-1);
        x.picture(0, 0, 0L, 0);
        for (int i = 0; i < 200; i++) {
            C.yes("caption " + i, x.caption(0, 0, i % 2 == 0));
            if (i % 20 == 0) {
                C.no("caption again, which is none", x.caption(0, 0, i % 2 == 0));
            }
        }
        C.no("the 201st", x.caption(0, 0, true));
        C.due("has(0, 0, 0, false)", x.has(0, 0, 0, false), 0);
        C.due("has(0, 0, 0, true)", x.has(0, 0, 0, true), 1);
    }

    private static void hasAndHad() {
        PictureAgency x = new PictureAgency();
        x.word(-1);
        x.word(-1);
        x.picture(0, 0, 0L, 0);
        x.minute(10);
        x.caption(0, 0, true);
        x.minute(20);
        x.caption(0, 0, false);
        x.minute(30);
        x.caption(0, 0, true);
        x.caption(0, 0, false);
        x.minute(40);
        x.caption(0, 0, true);
        x.minute(50);
        int[] minutes = {0, 9, 10, 19, 20, 29, 30, 39, 40, 50};
        int[] has = {0, 0, 1, 1, 0, 0, 0, 0, 1, 1};
        int[] had = {0, 0, 1, 1, 1, 1, 1, 1, 1, 1};
        for (int i = 0; i < minutes.length; i++) {
            C.due("has(0, 0, " + minutes[i] + ", false)", x.has(0, 0, minutes[i], false), has[i]);
            C.due("has(0, 0, " + minutes[i] + ", true)", x.has(0, 0, minutes[i], true), had[i]);
            C.due("has(0, 1, " + minutes[i] + ", true)", x.has(0, 1, minutes[i], true), 0);
        }
        C.due("has(0, 0, 51, false)", x.has(0, 0, 51, false), -1);
        C.due("has(0, 0, -1, false)", x.has(0, 0, -1, false), -1);
        C.due("has(1, 0, 0, false)", x.has(1, 0, 0, false), -1);
        C.due("has(-1, 0, 0, false)", x.has(-1, 0, 0, false), -1);
        C.due("has(0, 2, 0, false)", x.has(0, 2, 0, false), -1);
        C.due("has(0, -1, 0, true)", x.has(0, -1, 0, true), -1);
    }

    private static void belowAsAtTheMinute() {
        PictureAgency x = new PictureAgency();
        x.word(-1);
        x.word(0);
        x.word(1);
        x.word(-1);
        x.picture(0, 0, 0L, 0);
        x.caption(0, 2, true);
        x.minute(5);
        x.put(1, 3);
        x.minute(6);
        C.due("has(0, 0, 4, false): two below", x.has(0, 0, 4, false), 1);
        C.due("has(0, 1, 4, false)", x.has(0, 1, 4, false), 1);
        C.due("has(0, 3, 4, false)", x.has(0, 3, 4, false), 0);
        C.due("has(0, 0, 5, false)", x.has(0, 0, 5, false), 0);
        C.due("has(0, 1, 5, false)", x.has(0, 1, 5, false), 1);
        C.due("has(0, 3, 5, false)", x.has(0, 3, 5, false), 1);
        C.due("search(0, 4, false)", x.search(0, 4, false), 1);
        C.due("search(0, 5, false)", x.search(0, 5, false), 0);
        C.due("search(3, 6, false)", x.search(3, 6, false), 1);
        x.caption(0, 2, false);
        C.due("search(3, 6, false): lost", x.search(3, 6, false), 0);
        C.due("search(3, 6, true): it had it", x.search(3, 6, true), 1);
        C.due("search(0, 6, true): but not below this one", x.search(0, 6, true), 0);
        C.due("search(0, 4, true)", x.search(0, 4, true), 1);
        x.caption(0, 0, true);
        C.due("has(0, 2, 6, false): one above doesn't count", x.has(0, 2, 6, false), 0);
    }

    private static void searching() {
        PictureAgency x = new PictureAgency();
        x.word(-1);
        x.word(0);
        x.word(0);
        x.word(-1);
        for (int i = 0; i < 5; i++) {
            x.picture(0, 0, 0L, 0);
        }
        x.caption(4, 1, true);
        x.caption(1, 2, true);
        x.caption(1, 1, true);
        x.caption(3, 0, true);
        C.due("search(0)", x.search(0, 0, false), 3);
        C.due("found(0, .., 0)", x.found(0, 0, false, 0), 1);
        C.due("found(0, .., 1)", x.found(0, 0, false, 1), 3);
        C.due("found(0, .., 2)", x.found(0, 0, false, 2), 4);
        C.due("found(0, .., 3)", x.found(0, 0, false, 3), -1);
        C.due("found(0, .., -1)", x.found(0, 0, false, -1), -1);
        C.due("found(0, .., MAX)", x.found(0, 0, false, Integer.MAX_VALUE), -1);
        C.due("search(1)", x.search(1, 0, false), 2);
        C.due("found(1, .., 1)", x.found(1, 0, false, 1), 4);
        C.due("search(3)", x.search(3, 0, false), 0);
        C.due("search(3) old", x.search(3, 0, true), 0);
        C.due("found(3, .., 0)", x.found(3, 0, false, 0), -1);
        x.minute(2);
        x.caption(1, 1, false);
        x.caption(1, 2, false);
        C.due("search(0, 2)", x.search(0, 2, false), 2);
        C.due("search(0, 2) old", x.search(0, 2, true), 3);
        C.due("search(0, 1)", x.search(0, 1, false), 3);
        C.due("found(0, 2, 0)", x.found(0, 2, false, 0), 3);
        C.due("found(0, 2, 0) old", x.found(0, 2, true, 0), 1);
        C.due("search(0, 3)", x.search(0, 3, false), -1);
        C.due("search(0, -1)", x.search(0, -1, false), -1);
        C.due("search(4, 0)", x.search(4, 0, false), -1);
        C.due("search(-1, 0)", x.search(-1, 0, false), -1);
        C.due("found(0, 3, .., 0)", x.found(0, 3, false, 0), -1);
        C.due("found(0, -1, .., 0)", x.found(0, -1, false, 0), -1);
        C.due("found(4, 0, .., 0)", x.found(4, 0, false, 0), -1);
        C.due("found(-1, 0, .., 0)", x.found(-1, 0, false, 0), -1);
    }

    private static void lastNumbers() {
        PictureAgency x = new PictureAgency();
        for (int i = 0; i < 40; i++) {
            x.word(i - 1);
            x.picture(0, 0, 0L, 0);
        }
        for (int i = 0; i < 40; i++) {
            C.yes("caption(" + i + ", 39, true)", x.caption(i, 39, true));
        }
        C.due("search(0)", x.search(0, 0, false), 40);
        C.due("search(39)", x.search(39, 0, false), 40);
        C.due("found(0, .., 39)", x.found(0, 0, false, 39), 39);
        C.due("found(0, .., 40)", x.found(0, 0, false, 40), -1);
        C.due("has(39, 0)", x.has(39, 0, 0, false), 1);
        C.yes("put(20, -1)", x.put(20, -1));
        C.due("search(19)", x.search(19, 0, false), 0);
        C.due("search(20)", x.search(20, 0, false), 40);
    }
}
