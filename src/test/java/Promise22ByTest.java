/**
 * Promise 22, by: "The number of the TEXT (from 0), PERSON or SALE by which a USE isn't LET (the least), of WHY 2, 3, 4.
 * NONE else."
 */
public final class Promise22ByTest {
    private static final Checks C = new Checks("Promise22ByTest");

    public static void main(String[] args) {
        texts();
        persons();
        sales();
        lastSale();
        onlyOfItsWhy();
        noneWhereLet();
        noneOfEmbargo();
        noneForOthers();
        C.finish();
    }

    private static void texts() {
        Run x = new Run(C, "The number of the TEXT (from 0), the least");
        x.pictures(1);
        x.text(0, "most 30;", 1);
        x.text(0, "most 20;", 2);
        x.text(0, "most 10;", 3);
        x.uses("0, 0, 0, 10, -1", 0, -1);
        x.uses("0, 0, 0, 11, -1", 2, 2);
        x.uses("0, 0, 0, 20, -1", 2, 2);
        x.uses("0, 0, 0, 21, -1", 2, 1);
        x.uses("0, 0, 0, 30, -1", 2, 1);
        x.uses("0, 0, 0, 31, -1", 2, 0);
    }

    private static void persons() {
        Run x = new Run(C, "The number of the PERSON, the least");
        x.due("picture(0, 0, 0, 65535)", 0);
        x.due("picture(0, 0, 0, 32768)", 1);
        for (int person = 15; person >= 0; person--) {
            x.yes("leave(" + person + ", false)");
            x.uses("0, 0, 0, 1, -1", 3, person);
            x.uses("1, 0, 0, 1, -1", 3, 15);
        }
        x.yes("leave(0, true)");
        x.uses("0, 0, 0, 1, -1", 3, 1);
    }

    private static void sales() {
        Run x = new Run(C, "The number of the SALE, the least");
        x.due("picture(0, 0, 0, 0)", 0);
        x.due("picture(0, 0, 15, 0)", 1);
        x.due("sale(0, 0, 0, 1, -1, -1)", 0);
        x.due("sale(0, 1, 0, 1, -1, 9)", 1);
        x.due("sale(1, 0, 0, 1, -1, 8)", 2);
        x.due("sale(0, 0, 0, 1, -1, 7)", 3);
        x.uses("0, 0, 0, 1, -1", 4, 3);
        x.uses("0, 1, 0, 1, -1", 4, 1);
        x.uses("1, 0, 0, 1, -1", 4, 2);
        x.yes("limit(15)");
        x.uses("0, 0, 0, 1, -1", 4, 2);
        x.yes("strike(2)");
        x.uses("0, 0, 0, 1, -1", 4, 3);
        x.uses("1, 0, 0, 1, -1", 4, 3);
        x.yes("minute(7)");
        x.uses("1, 0, 0, 1, -1", 4, 3);
        x.yes("minute(8)");
        x.uses("1, 0, 0, 1, -1", 0, -1);
    }

    private static void lastSale() {
        Run x = new Run(C, "The number of the SALE: the last one of 60");
        x.pictures(1);
        for (int i = 0; i < 59; i++) {
            x.due("sale(0, 0, 0, 1, -1, -1)", i);
        }
        x.uses("0, 0, 0, 1, -1", 0, -1);
        x.due("sale(0, 0, 0, 1, -1, 0)", 59);
        x.uses("0, 0, 0, 1, -1", 4, 59);
    }

    private static void onlyOfItsWhy() {
        Run x = new Run(C, "by which a USE isn't LET, of that WHY which is the first");
        x.due("picture(0, 0, 0, 96)", 0);
        x.due("sale(0, 1, 0, 1, -1, -1)", 0);
        x.due("sale(0, 1, 0, 1, -1, 5)", 1);
        x.uses("0, 1, 0, 1, -1", 4, 1);
        x.yes("leave(6, false)");
        x.uses("0, 1, 0, 1, -1", 3, 6);
        x.due("text(0)", 1);
        x.due("text(0)", 2);
        x.text(0, "land 2;", 3);
        x.uses("0, 1, 0, 1, -1", 2, 2);
        x.yes("embargo(0, 5)");
        x.uses("0, 1, 0, 1, -1", 1, -1);
        x.yes("minute(5)");
        x.uses("0, 1, 0, 1, -1", 2, 2);
        x.uses("0, 2, 0, 1, -1", 3, 6);
    }

    private static void noneWhereLet() {
        Run x = new Run(C, "NONE else: it is LET");
        x.due("picture(0, 0, 0, 65535)", 0);
        x.due("by(0, 0, 0, 1, -1)", -1);
        x.text(0, "most 5;", 1);
        x.due("sale(0, 0, 0, 1, -1, -1)", 0);
        x.due("by(0, 0, 0, 5, -1)", -1);
    }

    private static void noneOfEmbargo() {
        Run x = new Run(C, "NONE else: WHY 1");
        x.due("picture(0, 0, 0, 1)", 0);
        x.due("sale(0, 0, 0, 1, -1, 9)", 0);
        x.text(0, "land 1;", 1);
        x.yes("leave(0, false)");
        x.yes("embargo(0, 1)");
        x.uses("0, 0, 0, 1, -1", 1, -1);
        x.uses("0, 1, 0, 1, -1", 1, -1);
    }

    private static void noneForOthers() {
        Run x = new Run(C, "NONE else: others");
        x.none("by(0, 0, 0, 1, -1)");
        x.due("picture(0, 0, 0, 1)", 0);
        x.words(1);
        x.yes("leave(0, false)");
        x.due("by(0, 9, 4, 1000, 0)", 0);
        for (String use : new String[] {"1, 0, 0, 1, -1", "-1, 0, 0, 1, -1", "0, 10, 0, 1, -1", "0, -1, 0, 1, -1",
            "0, 0, 5, 1, -1", "0, 0, -1, 1, -1", "0, 0, 0, 0, -1", "0, 0, 0, 1001, -1", "0, 0, 0, 1, 1",
            "0, 0, 0, 1, -2", "MIN, 0, 0, 1, -1", "0, MIN, 0, 1, -1", "0, 0, MIN, 1, -1", "0, 0, 0, MIN, -1",
            "0, 0, 0, 1, MIN", "MAX, 0, 0, 1, -1", "0, MAX, 0, 1, -1", "0, 0, MAX, 1, -1", "0, 0, 0, MAX, -1",
            "0, 0, 0, 1, MAX"}) {
            x.none("by(" + use + ")");
        }
    }
}
