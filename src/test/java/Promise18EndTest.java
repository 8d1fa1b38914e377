/**
 * Promise 18, end: "The tape has its first n bytes alone: n. NONE, and nothing is done, if it has not so many, or n is
 * below 0."
 */
public final class Promise18EndTest {
    private static final Checks C = new Checks("Promise18EndTest");

    public static void main(String[] args) {
        firstOnesAlone();
        ofAnEmptyTape();
        notSoMany();
        notSoManyAnyMore();
        belowZero();
        nothingIsDone();
        C.finish();
    }

    private static void firstOnesAlone() {
        Run x = new Run(C, "The tape has its first n bytes alone: n");
        x.pictures(1);
        x.due(Run.feedOf("land 1 2;use 3;?????", 0), 20);
        x.due("end(20)", 20);
        x.due("about(8)", 20);
        x.due("end(15)", 15);
        x.due("end(9)", 9);
        x.due("about(8)", 9);
        x.due("text(0)", 1);
        x.uses("0, 1, 0, 1, -1", 0, -1);
        x.uses("0, 2, 4, 1, -1", 0, -1);
        x.uses("0, 3, 0, 1, -1", 2, 0);
        x.due(Run.feedOf("????????????????????", 0), 20);
        x.due("end(0)", 0);
        x.due("about(8)", 0);
        x.due("text(0)", 2);
    }

    private static void ofAnEmptyTape() {
        Run x = new Run(C, "The tape has its first n bytes alone: none of none");
        x.due("end(0)", 0);
        x.due("about(8)", 0);
        x.none("end(1)");
        x.none("end(-1)");
        x.none("end(120)");
        x.due("about(8)", 0);
    }

    private static void notSoMany() {
        Run x = new Run(C, "NONE if it has not so many");
        for (int length = 20; length <= 120; length += 20) {
            x.none("end(" + (length - 19) + ")");
            x.due("feed(0, 0, 0, 0, 0)", length);
            x.none("end(" + (length + 1) + ")");
            x.due("end(" + length + ")", length);
        }
        x.none("end(121)");
        x.none("end(140)");
        x.none("end(MAX)");
        x.due("about(8)", 120);
    }

    private static void notSoManyAnyMore() {
        Run x = new Run(C, "NONE if it has not so many: those that were cut are gone");
        x.pictures(1);
        x.due("feed(0, 0, 0, 0, 0)", 20);
        x.due("end(7)", 7);
        x.none("end(8)");
        x.none("end(20)");
        x.due("end(7)", 7);
        x.due("end(6)", 6);
        x.none("end(7)");
        x.due("text(0)", -1);
        x.none("end(1)");
        x.due("end(0)", 0);
    }

    private static void belowZero() {
        Run x = new Run(C, "NONE if n is below 0");
        x.none("end(-1)");
        x.due("feed(0, 0, 0, 0, 0)", 20);
        x.none("end(-1)");
        x.none("end(-20)");
        x.none("end(MIN)");
        x.due("about(8)", 20);
        x.due("end(0)", 0);
    }

    private static void nothingIsDone() {
        Run x = new Run(C, "and nothing is done");
        x.pictures(1);
        x.due(Run.feedOf("most 10;            ", 0), 20);
        x.none("end(21)");
        x.none("end(-1)");
        x.due("about(8)", 20);
        x.due("text(0)", 1);
        x.uses("0, 0, 0, 10, -1", 0, -1);
        x.uses("0, 0, 0, 11, -1", 2, 0);
    }
}
