/**
 * Promise 20, fault: "Of the latest TEXT that was read: 0 its FAULT (0 without), 1 its place (NONE without). NONE for
 * others, and ahead of any." And of the Terms: "FAULTS, the first as TOKENS are come to, at the TOKEN's first byte (of
 * the end at the length), of one the least: 1 it can't stand there, or is none. 2 a CLAUSE for the second time (at its
 * word). 3 a NUMBER that isn't one of those told."
 */
public final class Promise20FaultTest {
    private static final Checks C = new Checks("Promise20FaultTest");

    public static void main(String[] args) {
        aheadOfAny();
        without();
        otherWhat();
        ofTheLatest();
        ofThoseThatWereRead();
        notAToken();
        lettersAndDigits();
        blanksAside();
        cannotStandThere();
        theEnd();
        secondTime();
        notOneOfThoseTold();
        longNumbers();
        theFirst();
        ofOneTheLeast();
        C.finish();
    }

    /** A new object with three words and one picture reads the text. */
    private static void reads(String sentence, String text, int fault, int place) {
        Run x = new Run(C, sentence + ": '" + text + "'");
        x.words(3);
        x.pictures(1);
        x.text(0, text, fault == 0 ? 1 : -1);
        x.due("fault(0)", fault);
        x.due("fault(1)", place);
        x.due("about(8)", 0);
    }

    private static void aheadOfAny() {
        Run x = new Run(C, "NONE ahead of any");
        x.none("fault(0)");
        x.none("fault(1)");
        x.none("fault(2)");
        x.due("feed(0, 0, 0, 0, 0)", 20);
        x.none("text(0)");
        x.none("fault(0)");
        x.none("fault(1)");
        x.pictures(1);
        x.none("text(1)");
        x.none("text(-1)");
        x.none("fault(0)");
        x.none("fault(1)");
    }

    private static void without() {
        Run x = new Run(C, "0 its FAULT (0 without), 1 its place (NONE without)");
        x.pictures(1);
        x.due("text(0)", 1);
        x.due("fault(0)", 0);
        x.due("fault(1)", -1);
        x.text(0, "land 1;", 2);
        x.due("fault(0)", 0);
        x.due("fault(1)", -1);
    }

    private static void otherWhat() {
        Run x = new Run(C, "NONE for others");
        x.pictures(1);
        x.text(0, "  land land", -1);
        x.due("fault(0)", 1);
        x.due("fault(1)", 7);
        x.none("fault(-1)");
        x.none("fault(2)");
        x.none("fault(MIN)");
        x.none("fault(MAX)");
        x.due("text(0)", 1);
        x.none("fault(-1)");
        x.none("fault(2)");
    }

    private static void ofTheLatest() {
        Run x = new Run(C, "Of the latest TEXT that was read");
        x.pictures(2);
        x.text(0, "use 1;use 2;", -1);
        x.due("fault(0)", 2);
        x.due("fault(1)", 6);
        x.text(1, "use 9;", -1);
        x.due("fault(0)", 3);
        x.due("fault(1)", 4);
        x.text(0, "use 1;", 1);
        x.due("fault(0)", 0);
        x.due("fault(1)", -1);
        x.text(0, "?", -1);
        x.due("fault(0)", 1);
        x.due("fault(1)", 0);
    }

    private static void ofThoseThatWereRead() {
        Run x = new Run(C, "that was read: not for no such PICTURE, nor for a fourth one");
        x.pictures(2);
        x.due("text(0)", 1);
        x.due("text(0)", 2);
        x.due("text(0)", 3);
        x.type("use 9;");
        x.none("text(0)");
        x.none("text(2)");
        x.due("fault(0)", 0);
        x.due("fault(1)", -1);
        x.due("text(1)", -1);
        x.due("fault(0)", 3);
        x.due("fault(1)", 4);
        x.none("text(0)");
        x.none("text(-1)");
        x.due("fault(0)", 3);
        x.due("fault(1)", 4);
    }

    private static void notAToken() {
        for (int b = 0; b < 256; b++) {
            String letter = String.valueOf((char) b);
            if (b == ' ') {
                continue;
            }
            reads("1 it can't stand there, or is none", "land 1;" + letter, 1, 7);
            if (b == ';' || b >= '0' && b <= '9') {
                continue;
            }
            reads("1 it can't stand there, or is none", "land 1 " + letter + " 2;", 1, 7);
        }
    }

    private static void lettersAndDigits() {
        String sentence = "TOKENS: letters a .. z, A .. Z one behind the other, digits likewise";
        for (char c : "azAZ".toCharArray()) {
            reads(sentence, c + "land 1;", 1, 0);
            reads(sentence, "land" + c + " 1;", 1, 0);
        }
        for (char c : "`{@[/:".toCharArray()) {
            reads(sentence, "land" + c + " 1;", 1, 4);
            reads(sentence, "land 1" + c + ";", 1, 6);
        }
        for (char c : "09".toCharArray()) {
            reads(sentence, "land" + c + ";", 0, -1);
            reads(sentence, "land 1" + c + ";", 3, 5);
            reads(sentence, "land 1 " + c + ";", 0, -1);
        }
        reads(sentence, "Land 1;", 1, 0);
        reads(sentence, "lanD 1;", 1, 0);
        reads(sentence, "lan 1;", 1, 0);
        reads(sentence, "la nd 1;", 1, 0);
        reads(sentence, "landuse 1;", 1, 0);
        reads(sentence, "land 1use 1;", 1, 6);
        reads(sentence, "a".repeat(120), 1, 0);
    }

    private static void blanksAside() {
        String sentence = "TOKENS, blanks (32) aside";
        reads(sentence, "   land   1   2   ;   use   1   ;   ", 0, -1);
        reads(sentence, "land1;use2;days0 1;most3;not1;", 0, -1);
        reads(sentence, "land " + (char) 31 + "1;", 1, 5);
        reads(sentence, "land " + (char) 33 + "1;", 1, 5);
        reads(sentence, "land\t1;", 1, 4);
        reads(sentence, "land 1;\n", 1, 7);
        reads(sentence, "land " + (char) 160 + "1;", 1, 5);
        reads(sentence, "land 1;" + (char) 0, 1, 7);
        reads(sentence, " ".repeat(119) + ";", 1, 119);
        reads(sentence, " ".repeat(119) + "x", 1, 119);
    }

    private static void cannotStandThere() {
        String sentence = "1 it can't stand there";
        reads(sentence, ";", 1, 0);
        reads(sentence, "  7;", 1, 2);
        reads(sentence, "what 7;", 1, 0);
        for (String name : new String[] {"land", "use", "days", "most", "not"}) {
            int behind = name.length() + 1;
            reads(sentence, name + " ;", 1, behind);
            reads(sentence, name + " " + name + " 1;", 1, behind);
            reads(sentence, name + " x;", 1, behind);
            reads(sentence, name + " 1 x;", 1, behind + 2);
            reads(sentence, name + " 1 " + name + ";", 1, behind + 2);
        }
        reads(sentence, "days 1;", 1, 6);
        reads(sentence, "days 1 2;", 0, -1);
        reads(sentence, "days 1 2 3;", 1, 9);
        reads(sentence, "most 1;", 0, -1);
        reads(sentence, "most 1 2;", 1, 7);
        reads(sentence, "land 1;;", 1, 7);
        reads(sentence, "land 1; 2;", 1, 8);
        reads(sentence, "land 1;use 1;days 1 1;most 1;not 1;;", 1, 35);
        reads(sentence, "land 1;use 1;days 1 1;most 1;not 1;9", 1, 35);
    }

    private static void theEnd() {
        String sentence = "of the end at the length";
        reads(sentence, "land", 1, 4);
        reads(sentence, "land ", 1, 5);
        reads(sentence, "land 1", 1, 6);
        reads(sentence, "land 1   ", 1, 9);
        reads(sentence, "days 1", 1, 6);
        reads(sentence, "days 1 2", 1, 8);
        reads(sentence, "days", 1, 4);
        reads(sentence, "most", 1, 4);
        reads(sentence, "most 1 ", 1, 7);
        reads(sentence, "not", 1, 3);
        reads(sentence, "land 1;use", 1, 10);
        reads(sentence, "land" + " 1".repeat(58), 1, 120);
        reads(sentence, "land" + " 1".repeat(57) + "  ", 1, 120);
        reads(sentence, " ".repeat(116) + "land", 1, 120);
        reads(sentence, " ".repeat(115) + "land", 1, 119);
        Run x = new Run(C, "of the end at the length, not where cut bytes stand");
        x.pictures(1);
        x.due(Run.feedOf("land 1 2;           ", 0), 20);
        x.due("end(8)", 8);
        x.due("text(0)", -1);
        x.due("fault(0)", 1);
        x.due("fault(1)", 8);
    }

    private static void secondTime() {
        String sentence = "2 a CLAUSE for the second time (at its word)";
        String[] clauses = {"land 1;", "use 1;", "days 1 1;", "most 1;", "not 1;"};
        String all = String.join("", clauses);
        for (String clause : clauses) {
            reads(sentence, clause, 0, -1);
            reads(sentence, clause + clause, 2, clause.length());
            reads(sentence, clause + "  " + clause, 2, clause.length() + 2);
            reads(sentence, clause + clause.substring(0, clause.indexOf(' ')), 2, clause.length());
            reads(sentence, all + clause, 2, all.length());
            for (String other : clauses) {
                boolean same = other.equals(clause);
                reads(sentence, clause + other, same ? 2 : 0, same ? clause.length() : -1);
            }
        }
        reads("each at most once", all, 0, -1);
        reads("each at most once", "not 1;most 1;days 1 1;use 1;land 1;", 0, -1);
    }

    private static void notOneOfThoseTold() {
        String sentence = "3 a NUMBER that isn't one of those told";
        reads(sentence, "land 9;", 0, -1);
        reads(sentence, "land 10;", 3, 5);
        reads(sentence, "land 0 9 10;", 3, 9);
        reads(sentence, "use 4;", 0, -1);
        reads(sentence, "use 5;", 3, 4);
        reads(sentence, "use 0 4 5;", 3, 8);
        reads(sentence, "days 0 100000;", 0, -1);
        reads(sentence, "days 0 100001;", 3, 7);
        reads(sentence, "days 100000 100000;", 0, -1);
        reads(sentence, "days 100001 100001;", 3, 5);
        reads(sentence, "days 5 5;", 0, -1);
        reads(sentence, "days 5 4;", 3, 7);
        reads(sentence, "days 1 0;", 3, 7);
        reads(sentence, "most 1;", 0, -1);
        reads(sentence, "most 0;", 3, 5);
        reads(sentence, "most 1000;", 0, -1);
        reads(sentence, "most 1001;", 3, 5);
        reads(sentence, "not 2;", 0, -1);
        reads(sentence, "not 3;", 3, 4);
        reads(sentence, "not 0 1 2 3;", 3, 10);
        reads(sentence, "not 40;", 3, 4);
    }

    private static void longNumbers() {
        String sentence = "3 a NUMBER that isn't one of those told, however long it is";
        String[] wraps = {"4294967296", "4294967297", "2147483648", "18446744073709551616",
            "18446744073709551617", "340282366920938463463374607431768211457", "1" + "0".repeat(64)};
        for (String number : wraps) {
            reads(sentence, "land " + number + ";", 3, 5);
            reads(sentence, "use " + number + ";", 3, 4);
            reads(sentence, "days " + number + " 100000;", 3, 5);
            reads(sentence, "days 0 " + number + ";", 3, 7);
            reads(sentence, "most " + number + ";", 3, 5);
            reads(sentence, "not " + number + ";", 3, 4);
        }
        reads(sentence, "land " + "9".repeat(114) + ";", 3, 5);
        reads(sentence, "land " + "0".repeat(113) + "9;", 0, -1);
        reads(sentence, "most " + "0".repeat(60) + ";", 3, 5);
        reads(sentence, "most " + "0".repeat(60) + "1000;", 0, -1);
        reads(sentence, "days 000100000 0000100000;", 0, -1);
    }

    private static void theFirst() {
        String sentence = "the first as TOKENS are come to";
        reads(sentence, "land 10 x", 3, 5);
        reads(sentence, "land 1 x 10;", 1, 7);
        reads(sentence, "land 10; land 1; ?", 3, 5);
        reads(sentence, "use 1; use 9", 2, 7);
        reads(sentence, "use 9; use 1;", 3, 4);
        reads(sentence, "? use 9;", 1, 0);
        reads(sentence, "days 100001 1 1;", 3, 5);
        reads(sentence, "most 0", 3, 5);
        reads(sentence, "not 0 1 2 3 4 5", 3, 10);
    }

    private static void ofOneTheLeast() {
        String sentence = "of one the least";
        reads(sentence, "land 1 land 2;", 1, 7);
        reads(sentence, "use 1; land use 1;", 1, 12);
        reads(sentence, "days 1 2 100001;", 1, 9);
        reads(sentence, "most 1 0;", 1, 7);
        reads(sentence, "land 1; 10;", 1, 8);
    }
}
