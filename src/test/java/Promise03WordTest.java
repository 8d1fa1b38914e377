/** Promise 3, word: "A WORD in another one (NONE: in none): its number. NONE: no such one, or there are 40." */
public final class Promise03WordTest {
    private static final Checks C = new Checks("Promise03WordTest");

    public static void main(String[] args) {
        inNone();
        inAnother();
        noSuchOne();
        thereAreForty();
        C.finish();
    }

    private static void inNone() {
        Run x = new Run(C, "A WORD (NONE: in none): its number");
        x.due("word(-1)", 0);
        x.due("word(-1)", 1);
        x.due("about(0)", 2);
        x.due("within(0, 0)", -1);
        x.due("within(1, 0)", -1);
    }

    private static void inAnother() {
        Run x = new Run(C, "A WORD in another one: its number");
        x.due("word(-1)", 0);
        x.due("word(0)", 1);
        x.due("word(1)", 2);
        x.due("word(0)", 3);
        x.due("within(1, 0)", 0);
        x.due("within(2, 0)", 1);
        x.due("within(3, 0)", 0);
        x.due("picture(0, 0, 0, 0)", 0);
        x.yes("caption(0, 2, true)");
        x.due("search(0, 0, false)", 1);
        x.due("search(3, 0, false)", 0);
    }

    private static void noSuchOne() {
        Run x = new Run(C, "NONE: no such one");
        x.none("word(0)");
        x.none("word(1)");
        x.none("word(-2)");
        x.none("word(MIN)");
        x.none("word(MAX)");
        x.due("word(-1)", 0);
        x.none("word(1)");
        x.none("word(-2)");
        x.due("word(0)", 1);
        x.none("word(2)");
        x.none("word(39)");
        x.none("word(40)");
        x.none("word(MIN)");
        x.none("word(MAX)");
        x.due("word(1)", 2);
        x.due("about(0)", 3);
    }

    private static void thereAreForty() {
        Run x = new Run(C, "NONE: there are 40");
        x.words(39);
        x.none("word(39)");
        x.due("word(38)", 39);
        x.due("about(0)", 40);
        x.none("word(-1)");
        x.none("word(0)");
        x.none("word(39)");
        x.none("word(40)");
        x.due("about(0)", 40);
        x.due("within(39, 0)", 38);
        x.yes("minute(1)");
        x.none("word(-1)");
    }
}
