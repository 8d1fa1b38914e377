/**
 * Promise 27, got: "What a PERSON has got (NONE: the agency), struck ones taken back. 0 if there is none such."
 */
public final class Promise27GotTest {
    private static final Checks C = new Checks("Promise27GotTest");

    public static void main(String[] args) {
        personsAndAgency();
        everyPerson();
        bothShares();
        struckOnes();
        beyondAnInt();
        agencyBeyondAnInt();
        noneSuch();
        C.finish();
    }

    private static void personsAndAgency() {
        Run x = new Run(C, "What a PERSON has got (NONE: the agency)");
        x.due("picture(0, 0, 0, 0)", 0);
        x.due("picture(15, 0, -1, 0)", 1);
        x.due("got(0)", 0);
        x.due("got(-1)", 0);
        x.due("sale(0, 0, 0, 3, -1, -1)", 0);
        x.due("got(0)", 150);
        x.due("got(15)", 0);
        x.due("got(-1)", 150);
        x.yes("rate(-1, 51)");
        x.due("sale(1, 0, 0, 3, -1, -1)", 1);
        x.due("got(0)", 150);
        x.due("got(15)", 153);
        x.due("got(1)", 0);
        x.due("got(14)", 0);
        x.due("got(-1)", 297);
    }

    private static void everyPerson() {
        Run x = new Run(C, "What a PERSON has got: each of 16");
        x.yes("limit(0)");
        for (int person = 0; person < 16; person++) {
            x.due("picture(" + person + ", 0, " + person + ", 0)", person);
            x.due("sale(" + person + ", 0, 0, " + (2 * person + 2) + ", -1, -1)", person);
        }
        for (int person = 0; person < 16; person++) {
            x.due("got(" + person + ")", 100 * (person + 1));
        }
        x.due("got(-1)", 13600);
    }

    private static void bothShares() {
        Run x = new Run(C, "What a PERSON has got: as SHUTTER and as the FIRST's");
        x.due("picture(3, 0, 0, 0)", 0);
        x.due("picture(6, 1, 0, 0)", 1);
        x.due("sale(1, 0, 0, 1, -1, -1)", 0);
        x.due("got(3)", 5);
        x.due("got(6)", 45);
        x.due("sale(0, 0, 0, 1, -1, -1)", 1);
        x.due("got(3)", 55);
        x.due("got(6)", 45);
        x.due("got(-1)", 100);
    }

    private static void struckOnes() {
        Run x = new Run(C, "struck ones taken back");
        x.due("picture(3, 0, 0, 0)", 0);
        x.due("picture(6, 1, 0, 0)", 1);
        x.due("sale(1, 0, 0, 1, -1, -1)", 0);
        x.due("sale(1, 0, 0, 2, -1, -1)", 1);
        x.due("sale(1, 0, 0, 4, -1, -1)", 2);
        x.yes("strike(1)");
        x.due("got(3)", 25);
        x.due("got(6)", 225);
        x.due("got(-1)", 250);
        x.no("strike(1)");
        x.due("got(3)", 25);
        x.yes("strike(0)");
        x.yes("strike(2)");
        x.due("got(3)", 0);
        x.due("got(6)", 0);
        x.due("got(-1)", 0);
    }

    private static void beyondAnInt() {
        Run x = new Run(C, "What a PERSON has got: 60 times the greatest PRICE, which doesn't wrap around");
        x.due("picture(15, 1, 0, 0)", 0);
        x.due("picture(0, 0, 0, 0)", 1);
        x.yes("rate(0, 100000)");
        x.yes("rate(-1, 100)");
        for (int i = 0; i < 60; i++) {
            x.due("minute(" + i / 10 + ")", 1);
            x.due("sale(0, " + i % 10 + ", 0, 1000, -1, " + i / 10 + ")", i);
        }
        x.due("got(15)", 10800000000L);
        x.due("got(0)", 1200000000L);
        x.due("got(-1)", 0);
        x.yes("strike(59)");
        x.due("got(15)", 10620000000L);
    }

    private static void agencyBeyondAnInt() {
        Run x = new Run(C, "(NONE: the agency): 60 times the greatest PRICE, which doesn't wrap around");
        x.pictures(1);
        x.yes("rate(0, 100000)");
        x.yes("rate(-1, 0)");
        for (int i = 0; i < 60; i++) {
            x.due("minute(" + i / 10 + ")", 1);
            x.due("sale(0, " + i % 10 + ", 0, 1000, -1, " + i / 10 + ")", i);
        }
        x.due("got(-1)", 12000000000L);
        x.due("got(0)", 0);
        x.yes("strike(0)");
        x.due("got(-1)", 11800000000L);
    }

    private static void noneSuch() {
        Run x = new Run(C, "0 if there is none such");
        x.no("got(16)");
        x.due("picture(15, 0, 0, 0)", 0);
        x.due("sale(0, 0, 0, 1, -1, -1)", 0);
        x.due("got(15)", 50);
        x.due("got(-1)", 50);
        x.no("got(16)");
        x.no("got(-2)");
        x.no("got(MIN)");
        x.no("got(MAX)");
    }
}
