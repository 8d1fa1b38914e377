/**
 * Promise 17, feed: "Twenty bytes come behind the tape, the highest of a first: how many it has. NONE, and none come,
 * if there would be more than 120."
 */
public final class Promise17FeedTest {
    private static final Checks C = new Checks("Promise17FeedTest");
    private static final String ZEROS = "feed(0, 0, 0, 0, 0)";

    public static void main(String[] args) {
        howMany();
        highestFirst();
        behindTheTape();
        bytesAreNotSigned();
        moreThanHundredTwenty();
        noneCome();
        C.finish();
    }

    private static void howMany() {
        Run x = new Run(C, "Twenty bytes come behind the tape: how many it has");
        for (int length = 20; length <= 120; length += 20) {
            x.due(ZEROS, length);
            x.due("about(8)", length);
        }
    }

    private static void highestFirst() {
        String text = "land 1 9;use 2 ;days";
        Run x = new Run(C, "the highest of a first");
        x.pictures(1);
        x.due("feed(" + 0x6C616E64 + ", " + 0x20312039 + ", " + 0x3B757365 + ", " + 0x2032203B + ", " + 0x64617973
                + ")", 20);
        x.due("text(0)", -1);
        x.due("fault(0)", 1);
        x.due("fault(1)", 20);
        x.due(Run.feedOf(text, 0), 20);
        x.due("end(16)", 16);
        x.due("text(0)", 1);
        x.uses("0, 1, 2, 1, -1", 0, -1);
        x.uses("0, 9, 2, 1, -1", 0, -1);
        x.uses("0, 2, 2, 1, -1", 2, 0);
        x.uses("0, 1, 1, 1, -1", 2, 0);
    }

    private static void behindTheTape() {
        Run x = new Run(C, "bytes come behind the tape, also behind one that was cut");
        x.pictures(1);
        x.due(Run.feedOf("most 10;xxxxxxxxxxxx", 0), 20);
        x.due("end(8)", 8);
        x.due(Run.feedOf("land 4;yyyyyyyyyyyyy", 0), 28);
        x.due("end(15)", 15);
        x.due("text(0)", 1);
        x.uses("0, 4, 0, 10, -1", 0, -1);
        x.uses("0, 4, 0, 11, -1", 2, 0);
        x.uses("0, 3, 0, 10, -1", 2, 0);
    }

    private static void bytesAreNotSigned() {
        Run x = new Run(C, "Twenty bytes: those above 127 are bytes as well");
        x.pictures(1);
        x.due("feed(MIN, MAX, -1, -1, -1)", 20);
        x.due("text(0)", -1);
        x.due("fault(0)", 1);
        x.due("fault(1)", 0);
        // 0xA0 and 0xB1 are a blank and a digit but for their highest bit.
        x.due("feed(" + 0x6D6F7374 + ", " + 0x20B13B20 + ", 0, 0, 0)", 20);
        x.due("text(0)", -1);
        x.due("fault(1)", 5);
        x.due("feed(" + 0x6D6F7374 + ", " + 0xA0313B20 + ", 0, 0, 0)", 20);
        x.due("text(0)", -1);
        x.due("fault(1)", 4);
    }

    private static void moreThanHundredTwenty() {
        Run x = new Run(C, "NONE if there would be more than 120");
        for (int length = 20; length <= 120; length += 20) {
            x.due(ZEROS, length);
        }
        x.none(ZEROS);
        x.none("feed(-1, -1, -1, -1, -1)");
        x.due("about(8)", 120);
        x.due("end(119)", 119);
        x.none(ZEROS);
        x.due("end(101)", 101);
        x.none(ZEROS);
        x.due("about(8)", 101);
        x.due("end(100)", 100);
        x.due(ZEROS, 120);
        x.none(ZEROS);
        x.due("end(0)", 0);
        x.due(ZEROS, 20);
    }

    private static void noneCome() {
        Run x = new Run(C, "and none come");
        x.pictures(1);
        x.due(Run.feedOf("most 10;            ", 0), 20);
        for (int length = 40; length <= 120; length += 20) {
            x.due(Run.feedOf(" ".repeat(20), 0), length);
        }
        x.none(Run.feedOf("land 4;yyyyyyyyyyyyy", 0));
        x.due("end(110)", 110);
        x.none(Run.feedOf("land 4;yyyyyyyyyyyyy", 0));
        x.due("text(0)", 1);
        x.uses("0, 0, 0, 10, -1", 0, -1);
        x.uses("0, 0, 0, 11, -1", 2, 0);
    }
}
