/**
 * Promise 24, sale: "A SALE of a USE; it SHUTS its land till a MINUTE (NONE: it doesn't): its number. NONE: it isn't LET,
 * others, or there are 60." And of the Terms: PRICE and SPLIT.
 */
public final class Promise24SaleTest {
    private static final Checks C = new Checks("Promise24SaleTest");

    public static void main(String[] args) {
        itsNumber();
        shutsTillAMinute();
        untilEnds();
        untilAtTheLastMinute();
        notLet();
        otherUses();
        thereAreSixty();
        priceEnds();
        twiceIfItShuts();
        cut();
        tenthToTheFirst();
        noTenth();
        greatestSplit();
        asAtTheSale();
        C.finish();
    }

    private static void itsNumber() {
        Run x = new Run(C, "A SALE of a USE: its number");
        x.words(1);
        x.pictures(1);
        x.due("sale(0, 0, 0, 1, -1, -1)", 0);
        x.due("sale(0, 9, 4, 1000, 0, -1)", 1);
        x.due("about(3)", 2);
        x.none("sale(0, 0, 0, 0, -1, -1)");
        x.due("sale(0, 0, 0, 1, -1, -1)", 2);
    }

    private static void shutsTillAMinute() {
        Run x = new Run(C, "it SHUTS its land till a MINUTE (NONE: it doesn't)");
        x.pictures(2);
        x.yes("minute(3)");
        x.due("sale(0, 5, 0, 1, -1, -1)", 0);
        x.due("saleOf(0, 5)", -1);
        x.due("sale(0, 5, 0, 1, -1, 4)", 1);
        x.due("saleOf(1, 5)", 4);
        x.none("sale(0, 5, 0, 1, -1, -1)");
        x.none("sale(1, 5, 0, 1, -1, -1)");
        x.none("sale(1, 5, 4, 9, -1, 9)");
        x.due("sale(1, 4, 0, 1, -1, -1)", 2);
        x.due("sale(1, 6, 0, 1, -1, -1)", 3);
        x.yes("minute(4)");
        x.none("sale(0, 5, 0, 1, -1, -1)");
        x.yes("minute(5)");
        x.due("sale(0, 5, 0, 1, -1, -1)", 4);
    }

    private static void untilEnds() {
        Run x = new Run(C, "till a MINUTE (not ahead of the one at hand)");
        x.pictures(1);
        x.due("sale(0, 0, 0, 1, -1, 0)", 0);
        x.due("saleOf(0, 5)", 0);
        x.none("sale(0, 0, 0, 1, -1, 0)");
        x.yes("minute(10)");
        for (String until : new String[] {"9", "0", "-2", "100001", "MIN", "MAX"}) {
            x.none("sale(0, 0, 0, 1, -1, " + until + ")");
        }
        x.due("about(3)", 1);
        x.due("sale(0, 0, 0, 1, -1, 10)", 1);
        x.due("saleOf(1, 5)", 10);
        x.due("sale(0, 1, 0, 1, -1, 11)", 2);
        x.due("sale(0, 2, 0, 1, -1, 100000)", 3);
        x.due("saleOf(3, 5)", 100000);
    }

    private static void untilAtTheLastMinute() {
        Run x = new Run(C, "till a MINUTE, at the last one");
        x.pictures(1);
        x.yes("minute(100000)");
        x.none("sale(0, 0, 0, 1, -1, 99999)");
        x.none("sale(0, 0, 0, 1, -1, 100001)");
        x.due("sale(0, 0, 0, 1, -1, 100000)", 0);
        x.none("sale(0, 0, 0, 1, -1, -1)");
        x.due("sale(0, 1, 0, 1, -1, -1)", 1);
    }

    private static void notLet() {
        Run x = new Run(C, "NONE: it isn't LET");
        x.words(1);
        x.due("picture(0, 0, 0, 1)", 0);
        x.yes("embargo(0, 1)");
        x.none("sale(0, 0, 0, 1, -1, -1)");
        x.none("sale(0, 0, 0, 1, -1, 5)");
        x.yes("minute(1)");
        x.text(0, "not 0; land 0;", 1);
        x.none("sale(0, 0, 0, 1, 0, -1)");
        x.none("sale(0, 1, 0, 1, -1, 5)");
        x.yes("leave(0, false)");
        x.none("sale(0, 0, 0, 1, -1, -1)");
        x.yes("leave(0, true)");
        x.due("sale(0, 0, 0, 1, -1, 5)", 0);
        x.none("sale(0, 0, 0, 1, -1, -1)");
        x.none("sale(0, 0, 0, 1, -1, 5)");
        x.yes("strike(0)");
        x.due("sale(0, 0, 0, 1, -1, -1)", 1);
        x.due("got(0)", 50);
    }

    private static void otherUses() {
        Run x = new Run(C, "NONE: others");
        x.none("sale(0, 0, 0, 1, -1, -1)");
        x.words(1);
        x.pictures(1);
        for (String use : new String[] {"1, 0, 0, 1, -1", "-1, 0, 0, 1, -1", "0, 10, 0, 1, -1", "0, -1, 0, 1, -1",
            "0, 0, 5, 1, -1", "0, 0, -1, 1, -1", "0, 0, 0, 0, -1", "0, 0, 0, 1001, -1", "0, 0, 0, 1, 1",
            "0, 0, 0, 1, -2", "MIN, 0, 0, 1, -1", "0, MIN, 0, 1, -1", "0, 0, MIN, 1, -1", "0, 0, 0, MIN, -1",
            "0, 0, 0, 1, MIN", "MAX, 0, 0, 1, -1", "0, MAX, 0, 1, -1", "0, 0, MAX, 1, -1", "0, 0, 0, MAX, -1",
            "0, 0, 0, 1, MAX"}) {
            x.none("sale(" + use + ", -1)");
            x.none("sale(" + use + ", 7)");
        }
        x.due("about(3)", 0);
        x.due("sale(0, 9, 4, 1000, 0, -1)", 0);
    }

    private static void thereAreSixty() {
        Run x = new Run(C, "NONE: there are 60");
        x.pictures(1);
        for (int i = 0; i < 59; i++) {
            x.due("sale(0, 0, 0, 1, -1, -1)", i);
        }
        x.none("sale(0, 0, 0, 0, -1, -1)");
        x.due("sale(0, 0, 0, 2, -1, -1)", 59);
        x.due("saleOf(59, 6)", 200);
        x.none("sale(0, 0, 0, 1, -1, -1)");
        x.none("sale(0, 1, 0, 1, -1, 0)");
        x.due("got(0)", 59 * 50 + 100);
        x.yes("strike(0)");
        x.none("sale(0, 0, 0, 1, -1, -1)");
        x.due("about(3)", 60);
    }

    private static void priceEnds() {
        Run x = new Run(C, "PRICE: the told rate of the use times the size, from 0 to 100000 times 1000, twice");
        x.pictures(1);
        x.yes("rate(0, 0)");
        x.due("sale(0, 0, 0, 1, -1, -1)", 0);
        x.due("saleOf(0, 6)", 0);
        x.due("saleOf(0, 7)", 0);
        x.yes("rate(0, 100000)");
        x.due("sale(0, 1, 0, 1000, -1, -1)", 1);
        x.due("saleOf(1, 6)", 100000000);
        x.due("saleOf(1, 7)", 50000000);
        x.due("sale(0, 1, 0, 1000, -1, 0)", 2);
        x.due("saleOf(2, 6)", 200000000);
        x.due("saleOf(2, 7)", 100000000);
        x.due("got(-1)", 150000000);
    }

    private static void twiceIfItShuts() {
        Run x = new Run(C, "PRICE: twice as much if it SHUTS");
        x.pictures(1);
        x.yes("rate(1, 7)");
        x.due("sale(0, 0, 1, 3, -1, -1)", 0);
        x.due("saleOf(0, 6)", 21);
        x.due("sale(0, 0, 1, 3, -1, 0)", 1);
        x.due("saleOf(1, 6)", 42);
        x.due("sale(0, 1, 1, 3, -1, 100000)", 2);
        x.due("saleOf(2, 6)", 42);
    }

    private static void cut() {
        Run x = new Run(C, "to the SHUTTER PRICE * SHARE / 100, cut; what is left of the PRICE to the agency");
        x.pictures(1);
        int[] rates = {1, 1, 1, 3, 199, 100};
        int[] shares = {99, 100, 0, 33, 50, 1};
        int[] want = {0, 1, 0, 0, 99, 1};
        int own = 0;
        int rest = 0;
        for (int i = 0; i < rates.length; i++) {
            x.yes("rate(0, " + rates[i] + ")");
            x.yes("rate(-1, " + shares[i] + ")");
            x.due("sale(0, 0, 0, 1, -1, -1)", i);
            x.due("saleOf(" + i + ", 6)", rates[i]);
            x.due("saleOf(" + i + ", 7)", want[i]);
            own += want[i];
            rest += rates[i] - want[i];
            x.due("got(0)", own);
            x.due("got(-1)", rest);
        }
    }

    private static void tenthToTheFirst() {
        Run x = new Run(C, "a tenth of that, cut, goes to that one's SHUTTER, the rest to its own");
        x.due("picture(4, 9, 0, 0)", 0);
        x.due("picture(7, 8, 0, 0)", 1);
        x.yes("rate(-1, 100)");
        int[] prices = {0, 9, 10, 19, 20, 99};
        int own = 0;
        int first = 0;
        for (int i = 0; i < prices.length; i++) {
            x.yes("rate(0, " + prices[i] + ")");
            x.due("sale(0, 0, 0, 1, -1, -1)", i);
            x.due("saleOf(" + i + ", 8)", prices[i] / 10);
            x.due("saleOf(" + i + ", 7)", prices[i] - prices[i] / 10);
            own += prices[i] - prices[i] / 10;
            first += prices[i] / 10;
            x.due("got(4)", own);
            x.due("got(7)", first);
            x.due("got(-1)", 0);
        }
        x.yes("rate(0, 199)");
        x.yes("rate(-1, 50)");
        x.due("sale(0, 0, 0, 1, -1, -1)", 6);
        x.due("saleOf(6, 7)", 90);
        x.due("saleOf(6, 8)", 9);
        x.due("got(-1)", 100);
    }

    private static void noTenth() {
        Run x = new Run(C, "if the SET's FIRST was taken by another PERSON: not if by the same one, nor of another SET");
        x.due("picture(4, 9, 0, 0)", 0);
        x.due("picture(4, 8, 0, 0)", 1);
        x.due("picture(7, 9, 0, 0)", 2);
        x.due("picture(8, 0, -1, 0)", 3);
        x.due("sale(0, 0, 0, 1, -1, -1)", 0);
        x.due("saleOf(0, 7)", 50);
        x.due("saleOf(0, 8)", 0);
        x.due("sale(1, 0, 0, 1, -1, -1)", 1);
        x.due("saleOf(1, 7)", 50);
        x.due("saleOf(1, 8)", 0);
        x.due("sale(2, 0, 0, 1, -1, -1)", 2);
        x.due("saleOf(2, 7)", 45);
        x.due("saleOf(2, 8)", 5);
        x.due("got(4)", 105);
        x.due("got(7)", 45);
        x.due("got(8)", 0);
        x.due("got(-1)", 150);
    }

    private static void greatestSplit() {
        Run x = new Run(C, "SPLIT of the greatest PRICE, which doesn't wrap around");
        x.due("picture(15, 1, 0, 0)", 0);
        x.due("picture(0, 0, 0, 0)", 1);
        x.yes("rate(4, 100000)");
        x.yes("rate(-1, 100)");
        x.due("sale(0, 0, 4, 1000, -1, 0)", 0);
        x.due("saleOf(0, 6)", 200000000);
        x.due("saleOf(0, 7)", 180000000);
        x.due("saleOf(0, 8)", 20000000);
        x.yes("rate(-1, 99)");
        x.due("sale(0, 1, 4, 1000, -1, 0)", 1);
        x.due("saleOf(1, 7)", 178200000);
        x.due("saleOf(1, 8)", 19800000);
        x.due("got(-1)", 2000000);
    }

    private static void asAtTheSale() {
        Run x = new Run(C, "SHARE, rate and SET as at the sale");
        x.due("picture(4, 9, 0, 0)", 0);
        x.due("picture(7, 8, 15, 0)", 1);
        x.due("sale(0, 0, 0, 1, -1, -1)", 0);
        x.yes("rate(0, 1000)");
        x.yes("rate(-1, 10)");
        x.yes("limit(15)");
        x.due("saleOf(0, 6)", 100);
        x.due("saleOf(0, 7)", 50);
        x.due("saleOf(0, 8)", 0);
        x.due("sale(0, 0, 0, 1, -1, -1)", 1);
        x.due("saleOf(1, 6)", 1000);
        x.due("saleOf(1, 7)", 90);
        x.due("saleOf(1, 8)", 10);
        x.yes("limit(14)");
        x.due("saleOf(1, 8)", 10);
        x.due("got(7)", 10);
        x.due("picture(9, 0, 0, 0)", 2);
        x.due("got(9)", 0);
        x.due("got(4)", 140);
    }
}
