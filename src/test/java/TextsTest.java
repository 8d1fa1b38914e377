/** Promises 17 to 20: the tape, texts, and their faults. */
public final class TextsTest {
    private static final Checks C = new Checks("TextsTest");
    private static PictureAgency shared;

    public static void main(String[] args) {
        tape();
        texts();
        emptied();
        misplaced();
        repeated();
        outOfRange();
        rightOnes();
        order();
        everyByte();
        C.finish();
    }

    private static void tape() {
        PictureAgency x = new PictureAgency();
        C.due("end(0)", x.end(0), 0);
        C.due("end(1)", x.end(1), -1);
        C.due("end(-1)", x.end(-1), -1);
        for (int i = 20; i <= 120; i += 20) {
            C.due("feed", x.feed(0, 0, 0, 0, 0), i);
        }
        C.due("feed beyond 120", x.feed(0, 0, 0, 0, 0), -1);
        C.due("about(8)", x.about(8), 120);
        C.due("end(121)", x.end(121), -1);
        C.due("end(120)", x.end(120), 120);
        C.due("end(101)", x.end(101), 101);
        C.due("feed to 121", x.feed(0, 0, 0, 0, 0), -1);
        C.due("end(100)", x.end(100), 100);
        C.due("feed to 120", x.feed(0, 0, 0, 0, 0), 120);
        C.due("end(3)", x.end(3), 3);
        C.due("end(4)", x.end(4), -1);
        C.due("end(MIN)", x.end(Integer.MIN_VALUE), -1);
        C.due("end(MAX)", x.end(Integer.MAX_VALUE), -1);
        C.due("about(8)", x.about(8), 3);
        C.due("feed", x.feed(0, 0, 0, 0, 0), 23);
        bytesInOrder();
    }

    private static void bytesInOrder() {
        PictureAgency x = new PictureAgency();
        x.picture(0, 0, 0L, 0);
        // "land", " 3 5", "; us", "e 2;", "    "
        x.feed(0x6C616E64, 0x20332035, 0x3B207573, 0x6520323B, 0x20202020);
        C.due("text(0)", x.text(0), 1);
        for (int land = 0; land < 10; land++) {
            for (int use = 0; use < 5; use++) {
                boolean isLet = (land == 3 || land == 5) && use == 2;
                C.due("why(0, " + land + ", " + use + ", 1, -1)", x.why(0, land, use, 1, -1), isLet ? 0 : 2);
            }
        }
    }

    private static void texts() {
        PictureAgency x = new PictureAgency();
        x.picture(0, 0, 0L, 0);
        x.picture(0, 0, 0L, 0);
        C.due("fault(0) ahead of any", x.fault(0), -1);
        C.due("text(2)", x.text(2), -1);
        C.due("text(-1)", x.text(-1), -1);
        C.due("fault(0): none was read", x.fault(0), -1);
        C.due("fault(1): none was read", x.fault(1), -1);
        C.due("an empty text", x.text(0), 1);
        C.due("fault(0)", x.fault(0), 0);
        C.due("fault(1)", x.fault(1), -1);
        C.due("fault(2)", x.fault(2), -1);
        C.due("fault(-1)", x.fault(-1), -1);
        C.due("blanks", Checks.textOf(x, 0, "     "), 2);
        C.due("one with a fault isn't counted", Checks.textOf(x, 0, ";"), -1);
        C.due("fault(0)", x.fault(0), 1);
        C.due("fault(1)", x.fault(1), 0);
        C.due("the third", Checks.textOf(x, 0, "most 5;"), 3);
        C.due("the fourth", Checks.textOf(x, 0, ";"), -1);
        C.due("fault(0): the fourth wasn't read", x.fault(0), 0);
        C.due("another picture's first", Checks.textOf(x, 1, "most 5;"), 1);
    }

    private static void emptied() {
        PictureAgency x = new PictureAgency();
        x.picture(0, 0, 0L, 0);
        Checks.type(x, "most 5;");
        C.due("text(1)", x.text(1), -1);
        C.due("about(8): the tape stays", x.about(8), 7);
        C.due("text(0)", x.text(0), 1);
        C.due("about(8): it is empty then", x.about(8), 0);
        Checks.type(x, "most most");
        C.due("text(0)", x.text(0), -1);
        C.due("about(8): with a fault too", x.about(8), 0);
        x.text(0);
        x.text(0);
        Checks.type(x, "use 1;");
        C.due("text(0), a fourth", x.text(0), -1);
        C.due("about(8): the tape stays", x.about(8), 6);
    }

    private static void reads(String text, int fault, int place) {
        // A new object now and then, as a picture has three texts at most.
        PictureAgency x = new PictureAgency();
        x.word(-1);
        x.word(-1);
        x.word(-1);
        x.picture(0, 0, 0L, 0);
        C.due("text '" + text + "'", Checks.textOf(x, 0, text), fault == 0 ? 1 : -1);
        C.due("fault(0) of '" + text + "'", x.fault(0), fault);
        C.due("fault(1) of '" + text + "'", x.fault(1), place);
        shared = x;
    }

    private static void misplaced() {
        reads("Land 1;", 1, 0);
        reads("LAND 1;", 1, 0);
        reads("lan 1;", 1, 0);
        reads("lands 1;", 1, 0);
        reads("landuse 1;", 1, 0);
        for (char c : "azAZmM".toCharArray()) {
            reads("land" + c + " 1;", 1, 0);
        }
        for (char c : "@[`{/:".toCharArray()) {
            reads("land" + c + " 1;", 1, 4);
        }
        reads("x", 1, 0);
        reads("  x", 1, 2);
        reads("5;", 1, 0);
        reads(";", 1, 0);
        reads("land 1;;", 1, 7);
        reads("land ;", 1, 5);
        reads("land", 1, 4);
        reads("land  ", 1, 6);
        reads("land 1", 1, 6);
        reads("land 1   ", 1, 9);
        reads("land land 1;", 1, 5);
        reads("land 1 use 2;", 1, 7);
        reads("land 1x;", 1, 6);
        reads("days 1;", 1, 6);
        reads("days ;", 1, 5);
        reads("days 1 2 3;", 1, 9);
        reads("days 1 2 999999999;", 1, 9);
        reads("most 1 2;", 1, 7);
        reads("most 1 0;", 1, 7);
        reads("most;", 1, 4);
        reads("not;", 1, 3);
        reads("use", 1, 3);
        reads("not 1 not", 1, 6);
        reads("land 1, 2;", 1, 6);
        reads("land -1;", 1, 5);
        reads("land\t1;", 1, 4);
        reads("land 1;\n", 1, 7);
        reads("land 1;\0", 1, 7);
        reads("\u00ff", 1, 0);
        reads("land \u00b2;", 1, 5);
        reads("land 1; use 2; wrong", 1, 15);
    }

    private static void repeated() {
        reads("land 1; land 2;", 2, 8);
        reads("use 1; use 1;", 2, 7);
        reads("days 1 2; land 1; days 1 2;", 2, 18);
        reads("most 1;most", 2, 7);
        reads("not 1;not x", 2, 6);
        reads("land 1;use 1;days 1 1;most 1;not 1;not 1;", 2, 35);
        reads("land 1;use 1;days 1 1;most 1;not 1;land 1;", 2, 35);
        reads("land 1;use 1;days 1 1;most 1;not 1;1", 1, 35);
    }

    private static void outOfRange() {
        reads("land 10;", 3, 5);
        reads("land 1 2 10;", 3, 9);
        reads("land 4294967296;", 3, 5);
        reads("land 18446744073709551616;", 3, 5);
        reads("use 5;", 3, 4);
        reads("use 4 5 6", 3, 6);
        reads("days 100001 100002;", 3, 5);
        reads("days 1 100001;", 3, 7);
        reads("days 2 1;", 3, 7);
        reads("days 4294967297 2;", 3, 5);
        reads("most 0;", 3, 5);
        reads("most 1001;", 3, 5);
        reads("most 4294967297;", 3, 5);
        reads("not 3;", 3, 4);
        reads("not 0 1 2 3;", 3, 10);
        reads("not 4294967296;", 3, 4);
        reads("land " + "9".repeat(114) + ";", 3, 5);
    }

    private static void rightOnes() {
        reads("", 0, -1);
        reads(" ", 0, -1);
        reads("land 0 1 2 3 4 5 6 7 8 9;", 0, -1);
        reads("land 1 1 1;", 0, -1);
        reads("use 0 1 2 3 4;", 0, -1);
        reads("days 0 100000;", 0, -1);
        reads("days 0 0;", 0, -1);
        reads("days 100000 100000;", 0, -1);
        reads("most 1;", 0, -1);
        reads("most 1000;", 0, -1);
        reads("not 0 1 2 2;", 0, -1);
        reads("land1;use2;", 0, -1);
        reads("   land   1   ;   ", 0, -1);
        reads("not 1;most 1;days 1 1;use 1;land 1;", 0, -1);
        reads("land 000" + "0".repeat(60) + "1;", 0, -1);
        C.due("zeros ahead", shared.why(0, 1, 0, 1, -1), 0);
        C.due("zeros ahead", shared.why(0, 0, 0, 1, -1), 2);
        String longest = "land" + " 1".repeat(57) + " ;";
        C.due("its length", longest.length(), 120);
        reads(longest, 0, -1);
        reads("land" + " 1".repeat(58), 1, 120);
        reads(" ".repeat(120), 0, -1);
        reads(" ".repeat(119) + "a", 1, 119);
        reads("a".repeat(120), 1, 0);
        reads("land 1 2 3 4 5 6 7 8 9 0 0 0 0 0 0 0 0 0 0 0 0 0 0 0 0 0 0 0 0 0 0;", 0, -1);
    }

    private static void order() {
        reads("land 10 x", 3, 5);
        reads("land 1 x 10;", 1, 7);
        reads("land 1;land 10;", 2, 7);
        reads("land 10;land 1;", 3, 5);
        reads("! land 10;", 1, 0);
        PictureAgency x = new PictureAgency();
        x.picture(0, 0, 0L, 0);
        C.due("a word that isn't there yet", Checks.textOf(x, 0, "not 0;"), -1);
        C.due("fault(0)", x.fault(0), 3);
        x.word(-1);
        C.due("now it is", Checks.textOf(x, 0, "not 0;"), 1);
        C.due("fault(0)", x.fault(0), 0);
        C.due("fault(1)", x.fault(1), -1);
    }

    private static void everyByte() {
        for (int b = 0; b < 256; b++) {
            char letter = (char) b;
            if (letter == ' ') {
                continue;
            }
            reads(String.valueOf(letter), 1, 0);
            if (letter >= '0' && letter <= '9') {
                reads("not 1" + letter + ";", 3, 4);
            } else {
                // A second stop is the one that can't stand there.
                reads("not 1" + letter + ";", 1, letter == ';' ? 6 : 5);
            }
        }
    }
}
