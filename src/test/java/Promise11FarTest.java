/** Promise 11, far: "FAR of two PICTURES. NONE: no such ones." */
public final class Promise11FarTest {
    private static final Checks C = new Checks("Promise11FarTest");

    public static void main(String[] args) {
        leastAndGreatest();
        numberByNumber();
        withoutSigns();
        noSuchOnes();
        lastOnes();
        C.finish();
    }

    private static void leastAndGreatest() {
        Run x = new Run(C, "FAR: from 0, of like GRIDS and of a PICTURE itself, to 240");
        x.due("picture(0, 0, 0, 0)", 0);
        x.due("picture(0, 0, -1, 0)", 1);
        x.due("picture(0, 0, 0, 0)", 2);
        x.due("far(0, 0)", 0);
        x.due("far(1, 1)", 0);
        x.due("far(0, 2)", 0);
        x.due("far(0, 1)", 240);
        x.due("far(1, 0)", 240);
    }

    private static void numberByNumber() {
        Run x = new Run(C, "the differences of their GRIDS, number by number");
        x.due("picture(0, 0, " + 0x10L + ", 0)", 0);
        x.due("picture(0, 0, " + 0x0FL + ", 0)", 1);
        x.due("picture(0, 0, " + 0x8000000000000000L + ", 0)", 2);
        x.due("picture(0, 0, " + 0x7FFFFFFFFFFFFFFFL + ", 0)", 3);
        x.due("picture(0, 0, " + 0x100000000L + ", 0)", 4);
        x.due("picture(0, 0, " + 0x0F0000000L + ", 0)", 5);
        x.due("far(0, 1)", 16);
        x.due("far(2, 3)", 226);
        x.due("far(4, 5)", 16);
    }

    private static void withoutSigns() {
        Run x = new Run(C, "the differences without signs");
        x.due("picture(0, 0, " + 0x0F3L + ", 0)", 0);
        x.due("picture(0, 0, " + 0xF05L + ", 0)", 1);
        x.due("far(0, 1)", 32);
        x.due("far(1, 0)", 32);
    }

    private static void noSuchOnes() {
        Run x = new Run(C, "NONE: no such ones");
        x.none("far(0, 0)");
        x.pictures(2);
        x.due("far(1, 1)", 0);
        x.none("far(2, 0)");
        x.none("far(0, 2)");
        x.none("far(2, 2)");
        x.none("far(-1, 0)");
        x.none("far(0, -1)");
        x.none("far(-1, -1)");
        x.none("far(40, 0)");
        x.none("far(0, 40)");
        x.none("far(MIN, 0)");
        x.none("far(0, MIN)");
        x.none("far(MAX, 0)");
        x.none("far(0, MAX)");
    }

    private static void lastOnes() {
        Run x = new Run(C, "FAR of two PICTURES, the last ones of 40");
        for (int i = 0; i < 40; i++) {
            x.due("picture(0, 0, " + (i % 16) + ", 0)", i);
        }
        x.due("far(39, 38)", 1);
        x.due("far(39, 0)", 7);
        x.due("far(0, 39)", 7);
        x.due("far(15, 39)", 8);
        x.none("far(39, 40)");
        x.none("far(40, 39)");
    }
}
