/** Counts the answers that are not the ones due, and prints them. */
final class Checks {
    private final String name;
    private int calls;
    private int wrong;

    Checks(String name) {
        this.name = name;
    }

    void due(String call, long got, long want) {
        calls++;
        if (got != want) {
            wrong++;
            System.out.println(name + ": " + call + " answered " + got + ", due is " + want);
        }
    }

    void yes(String call, boolean got) {
        due(call, got ? 1 : 0, 1);
    }

    void no(String call, boolean got) {
        due(call, got ? 1 : 0, 0);
    }

    void finish() {
        System.out.println(name + ": " + calls + " answers, " + wrong + " not as due");
        if (wrong != 0 || calls == 0) {
            System.exit(1);
        }
    }

    /** Brings a text of up to 120 characters onto the tape, behind what is on it. */
    static void type(PictureAgency x, String text) {
        int before = x.about(8);
        for (int at = 0; at < text.length(); at += 20) {
            int[] fed = new int[5];
            for (int i = 0; i < 20; i++) {
                int letter = at + i < text.length() ? text.charAt(at + i) & 255 : 0;
                fed[i / 4] |= letter << (24 - 8 * (i % 4));
            }
            x.feed(fed[0], fed[1], fed[2], fed[3], fed[4]);
        }
        x.end(before + text.length());
    }

    /** Makes a text of the tape alone, and of nothing that was on it. */
    static int textOf(PictureAgency x, int picture, String text) {
        x.end(0);
        type(x, text);
        return x.text(picture);
    }
}
