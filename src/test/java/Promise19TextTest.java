/**
 * Promise 19, text: "The tape (empty then) is a TEXT of a PICTURE from now on: how many it has. NONE: it has a FAULT; or
 * (the tape stays) there is no such PICTURE, or it has 3." And of the Terms what each CLAUSE lets, up to its ends.
 */
public final class Promise19TextTest {
    private static final Checks C = new Checks("Promise19TextTest");

    public static void main(String[] args) {
        emptyThen();
        emptyTexts();
        hundredTwentyBytes();
        fromNowOn();
        aFault();
        noSuchPicture();
        itHasThree();
        threeOfEach();
        lands();
        uses();
        days();
        daysOfOneMinute();
        allDays();
        sizes();
        wordsNotBeside();
        lastWordNotBeside();
        wordsThatThereAre();
        manyNumbers();
        whatNoClauseTells();
        C.finish();
    }

    private static void emptyThen() {
        Run x = new Run(C, "The tape (empty then)");
        x.pictures(1);
        x.type("most 5;");
        x.due("about(8)", 7);
        x.due("text(0)", 1);
        x.due("about(8)", 0);
        x.none("end(1)");
        x.due("text(0)", 2);
        x.uses("0, 0, 0, 6, -1", 2, 0);
        x.type("most;");
        x.due("text(0)", -1);
        x.due("about(8)", 0);
        x.none("end(1)");
        x.due("text(0)", 3);
    }

    private static void emptyTexts() {
        Run x = new Run(C, "TEXTS, each up to 120 bytes: of none, of blanks alone");
        x.pictures(1);
        x.due("text(0)", 1);
        x.text(0, " ", 2);
        x.text(0, " ".repeat(120), 3);
        x.uses("0, 9, 4, 1000, -1", 0, -1);
    }

    private static void hundredTwentyBytes() {
        Run x = new Run(C, "TEXTS, each up to 120 bytes: of all 120");
        x.pictures(1);
        x.text(0, "land" + " 1".repeat(57) + " ;", 1);
        x.text(0, " ".repeat(114) + "use 1;", 2);
        x.text(0, "most " + "0".repeat(112) + "10;", 3);
        x.uses("0, 1, 1, 10, -1", 0, -1);
        x.uses("0, 0, 1, 10, -1", 2, 0);
        x.uses("0, 1, 0, 10, -1", 2, 1);
        x.uses("0, 1, 1, 11, -1", 2, 2);
    }

    private static void fromNowOn() {
        Run x = new Run(C, "is a TEXT of a PICTURE from now on: how many it has");
        x.pictures(2);
        x.due("sale(0, 3, 0, 9, -1, -1)", 0);
        x.text(0, "most 8;", 1);
        x.uses("0, 3, 0, 9, -1", 2, 0);
        x.uses("1, 3, 0, 9, -1", 0, -1);
        x.due("saleOf(0, 9)", 0);
        x.due("got(0)", 450);
        x.text(0, "land 3;", 2);
        x.uses("0, 3, 0, 8, -1", 0, -1);
        x.uses("0, 4, 0, 8, -1", 2, 1);
        x.text(1, "land 4;", 1);
        x.uses("1, 4, 0, 9, -1", 0, -1);
        x.uses("1, 3, 0, 9, -1", 2, 0);
        x.uses("0, 3, 0, 8, -1", 0, -1);
    }

    private static void aFault() {
        Run x = new Run(C, "NONE: it has a FAULT, and is none of its TEXTS");
        x.pictures(1);
        for (int i = 0; i < 3; i++) {
            x.text(0, "land 1; most 2", -1);
            x.text(0, "land 1; land 2;", -1);
            x.text(0, "land 1; use 0 5;", -1);
        }
        x.uses("0, 0, 0, 1000, -1", 0, -1);
        x.text(0, "most 7;", 1);
        x.text(0, "land 1; days 9 8;", -1);
        x.uses("0, 0, 0, 7, -1", 0, -1);
        x.uses("0, 0, 0, 8, -1", 2, 0);
        x.text(0, "use 1;", 2);
        x.uses("0, 0, 0, 7, -1", 2, 1);
    }

    private static void noSuchPicture() {
        Run x = new Run(C, "NONE (the tape stays): there is no such PICTURE");
        x.none("text(0)");
        x.type("most 5;");
        x.none("text(0)");
        x.due("about(8)", 7);
        x.pictures(2);
        x.none("text(2)");
        x.none("text(-1)");
        x.none("text(40)");
        x.none("text(MIN)");
        x.none("text(MAX)");
        x.due("about(8)", 7);
        x.none("fault(0)");
        x.due("text(1)", 1);
        x.uses("1, 0, 0, 6, -1", 2, 0);
    }

    private static void itHasThree() {
        Run x = new Run(C, "NONE (the tape stays): it has 3");
        x.pictures(2);
        x.text(0, "most 5;", 1);
        x.text(0, "most 4;", 2);
        x.text(0, "most 3;", 3);
        x.none("text(0)");
        x.type("most 2;");
        x.none("text(0)");
        x.due("about(8)", 7);
        x.uses("0, 0, 0, 3, -1", 0, -1);
        x.uses("0, 0, 0, 4, -1", 2, 2);
        x.uses("0, 0, 0, 5, -1", 2, 1);
        x.uses("0, 0, 0, 6, -1", 2, 0);
        x.due("text(1)", 1);
        x.uses("1, 0, 0, 3, -1", 2, 0);
        x.type("wrong");
        x.none("text(0)");
        x.due("about(8)", 5);
        x.due("fault(0)", 0);
        x.due("fault(1)", -1);
    }

    private static void threeOfEach() {
        Run x = new Run(C, "TEXTS of a PICTURE (3 at most), of each of 40");
        x.pictures(40);
        for (int i = 0; i < 120; i++) {
            x.due("text(" + i % 40 + ")", i / 40 + 1);
        }
        x.none("text(0)");
        x.none("text(39)");
        x.none("text(40)");
    }

    private static void lands() {
        for (int land = 0; land < 10; land++) {
            Run x = new Run(C, "land (0 .. 9: these alone are let): " + land);
            x.pictures(2);
            x.text(0, "land " + land + ";", 1);
            x.text(1, "land " + land + " " + (9 - land) + ";", 1);
            for (int other = 0; other < 10; other++) {
                boolean isOne = other == land;
                x.uses("0, " + other + ", 0, 1, -1", isOne ? 0 : 2, isOne ? -1 : 0);
                boolean isOneOfTwo = isOne || other == 9 - land;
                x.uses("1, " + other + ", 0, 1, -1", isOneOfTwo ? 0 : 2, isOneOfTwo ? -1 : 0);
            }
            x.text(0, "land " + (land + 10) + ";", -1);
        }
    }

    private static void uses() {
        for (int use = 0; use < 5; use++) {
            Run x = new Run(C, "use (0 .. 4: these alone are let): " + use);
            x.pictures(2);
            x.text(0, "use " + use + ";", 1);
            x.text(1, "use " + use + " " + (4 - use) + ";", 1);
            for (int other = 0; other < 5; other++) {
                boolean isOne = other == use;
                x.uses("0, 0, " + other + ", 1, -1", isOne ? 0 : 2, isOne ? -1 : 0);
                boolean isOneOfTwo = isOne || other == 4 - use;
                x.uses("1, 0, " + other + ", 1, -1", isOneOfTwo ? 0 : 2, isOneOfTwo ? -1 : 0);
            }
            x.text(0, "use " + (use + 5) + ";", -1);
        }
    }

    private static void days() {
        Run x = new Run(C, "days (from a MINUTE to one not below it, both of them)");
        x.pictures(1);
        x.text(0, "days 5 7;", 1);
        int[] minutes = {0, 4, 5, 6, 7, 8, 100000};
        int[] why = {2, 2, 0, 0, 0, 2, 2};
        for (int i = 0; i < minutes.length; i++) {
            x.yes("minute(" + minutes[i] + ")");
            x.uses("0, 0, 0, 1, -1", why[i], why[i] == 0 ? -1 : 0);
        }
    }

    private static void daysOfOneMinute() {
        Run x = new Run(C, "days, to one not below it: the same one, and not the one ahead of it");
        x.pictures(1);
        x.text(0, "days 6 5;", -1);
        x.text(0, "days 6 6;", 1);
        x.yes("minute(5)");
        x.uses("0, 0, 0, 1, -1", 2, 0);
        x.yes("minute(6)");
        x.uses("0, 0, 0, 1, -1", 0, -1);
        x.yes("minute(7)");
        x.uses("0, 0, 0, 1, -1", 2, 0);
    }

    private static void allDays() {
        Run x = new Run(C, "days, MINUTES 0 .. 100000");
        x.pictures(2);
        x.text(0, "days 0 100001;", -1);
        x.text(0, "days 100001 100001;", -1);
        x.text(0, "days 0 100000;", 1);
        x.text(1, "days 0 0;", 1);
        x.text(0, "days 100000 100000;", 2);
        x.uses("0, 0, 0, 1, -1", 2, 1);
        x.uses("1, 0, 0, 1, -1", 0, -1);
        x.yes("minute(1)");
        x.uses("1, 0, 0, 1, -1", 2, 0);
        x.yes("minute(99999)");
        x.uses("0, 0, 0, 1, -1", 2, 1);
        x.yes("minute(100000)");
        x.uses("0, 0, 0, 1, -1", 0, -1);
    }

    private static void sizes() {
        Run x = new Run(C, "most (a size, 1 .. 1000)");
        x.pictures(3);
        x.text(0, "most 0;", -1);
        x.text(0, "most 1001;", -1);
        x.text(0, "most 1;", 1);
        x.text(1, "most 1000;", 1);
        x.text(2, "most 999;", 1);
        x.uses("0, 0, 0, 1, -1", 0, -1);
        x.uses("0, 0, 0, 2, -1", 2, 0);
        x.uses("0, 0, 0, 1000, -1", 2, 0);
        x.uses("1, 0, 0, 1000, -1", 0, -1);
        x.uses("2, 0, 0, 999, -1", 0, -1);
        x.uses("2, 0, 0, 1000, -1", 2, 0);
    }

    private static void wordsNotBeside() {
        Run x = new Run(C, "not: never beside one of these, or BELOW one as at that MINUTE");
        x.chainOfWords(4);
        x.due("word(0)", 4);
        x.due("word(-1)", 5);
        x.pictures(1);
        x.text(0, "not 1 5;", 1);
        x.uses("0, 0, 0, 1, -1", 0, -1);
        x.uses("0, 0, 0, 1, 0", 0, -1);
        x.uses("0, 0, 0, 1, 1", 2, 0);
        x.uses("0, 0, 0, 1, 2", 2, 0);
        x.uses("0, 0, 0, 1, 3", 2, 0);
        x.uses("0, 0, 0, 1, 4", 0, -1);
        x.uses("0, 0, 0, 1, 5", 2, 0);
        x.yes("minute(4)");
        x.yes("put(3, 4)");
        x.uses("0, 0, 0, 1, 3", 0, -1);
        x.yes("put(4, 5)");
        x.uses("0, 0, 0, 1, 3", 2, 0);
        x.uses("0, 0, 0, 1, 0", 0, -1);
    }

    private static void lastWordNotBeside() {
        Run x = new Run(C, "not: WORDS up to 39, BELOW one through 40");
        x.chainOfWords(40);
        x.pictures(2);
        x.text(0, "not 39;", 1);
        x.text(1, "not 0;", 1);
        x.uses("0, 0, 0, 1, 39", 2, 0);
        x.uses("0, 0, 0, 1, 38", 0, -1);
        x.uses("1, 0, 0, 1, 39", 2, 0);
        x.uses("1, 0, 0, 1, 0", 2, 0);
        x.uses("1, 0, 0, 1, -1", 0, -1);
        x.text(0, "not 40;", -1);
        x.text(0, "not 39 38 37;", 2);
    }

    private static void wordsThatThereAre() {
        Run x = new Run(C, "not (WORDS that there are)");
        x.pictures(1);
        x.text(0, "not 0;", -1);
        x.due("fault(0)", 3);
        x.words(1);
        x.text(0, "not 1;", -1);
        x.due("fault(0)", 3);
        x.text(0, "not 0;", 1);
        x.due("word(0)", 1);
        x.uses("0, 0, 0, 1, 1", 2, 0);
        x.text(0, "not 1;", 2);
        x.due("fault(0)", 0);
    }

    private static void manyNumbers() {
        Run x = new Run(C, "NUMBER {NUMBER}: one, or as many as there is room for; told twice is told once");
        x.words(1);
        x.pictures(2);
        x.text(0, "land 0 0 0;", 1);
        x.text(0, "use" + " 3".repeat(58) + ";", 2);
        x.text(0, "not" + " 0".repeat(58) + ";", 3);
        x.uses("0, 0, 3, 1, -1", 0, -1);
        x.uses("0, 1, 3, 1, -1", 2, 0);
        x.uses("0, 0, 2, 1, -1", 2, 1);
        x.uses("0, 0, 3, 1, 0", 2, 2);
        x.text(1, "land 0 1 2 3 4 5 6 7 8 9;use 0 1 2 3 4;", 1);
        x.uses("1, 9, 4, 1, 0", 0, -1);
    }

    private static void whatNoClauseTells() {
        String[] texts = {"land 9;", "use 4;", "days 0 0;", "most 1000;", "not 0;", ""};
        for (String text : texts) {
            Run x = new Run(C, "What no CLAUSE tells is let: '" + text + "'");
            x.words(2);
            x.pictures(1);
            x.text(0, text, 1);
            x.uses("0, 9, 4, 1000, 1", 0, -1);
            x.uses("0, 0, 4, 1000, 1", text.startsWith("land") ? 2 : 0, text.startsWith("land") ? 0 : -1);
            x.uses("0, 9, 0, 1000, 1", text.startsWith("use") ? 2 : 0, text.startsWith("use") ? 0 : -1);
            x.uses("0, 9, 4, 1000, 0", text.startsWith("not") ? 2 : 0, text.startsWith("not") ? 0 : -1);
            x.yes("minute(100000)");
            x.uses("0, 9, 4, 1, -1", text.startsWith("days") ? 2 : 0, text.startsWith("days") ? 0 : -1);
        }
    }
}
