import java.util.ArrayList;
import java.util.List;

/**
 * The test of one sentence of the document: a run of at most 512 calls on a new object. A call that the document
 * refuses is also looked at for what it has left behind: two objects are made by the calls so far, one of them gets
 * the refused call on top, and then both must answer all later calls alike.
 */
final class Run {
    private static final int MOST_CALLS = 512;

    private final Checks checks;
    private final String sentence;
    private final PictureAgency x = new PictureAgency();
    private final List<Call> history = new ArrayList<>();

    Run(Checks checks, String sentence) {
        this.checks = checks;
        this.sentence = sentence;
    }

    void due(String text, long want) {
        if (history.size() == MOST_CALLS) {
            throw new IllegalStateException("'" + sentence + "' needs more than 512 calls");
        }
        Call call = Call.of(text);
        long got = call.on(x);
        history.add(call);
        checks.due("'" + sentence + "', call " + history.size() + ", " + text, got, want);
    }

    void yes(String text) {
        due(text, 1);
    }

    /** Refused with false, or with 0. */
    void no(String text) {
        refused(text, 0);
    }

    /** Refused with NONE. */
    void none(String text) {
        refused(text, -1);
    }

    private void refused(String text, long want) {
        leavesAllAsItWas(Call.of(text));
        due(text, want);
    }

    private void leavesAllAsItWas(Call refused) {
        int room = MOST_CALLS - history.size() - 1;
        for (List<Call> probe : Probes.after(history, room)) {
            PictureAgency without = replayed();
            PictureAgency with = replayed();
            refused.on(with);
            for (Call later : probe) {
                checks.due("'" + sentence + "', " + later.text + " after the refused " + refused.text,
                        later.on(with), later.on(without));
            }
        }
    }

    private PictureAgency replayed() {
        PictureAgency y = new PictureAgency();
        for (Call call : history) {
            call.on(y);
        }
        return y;
    }

    /** Makes this many words that lie in none. */
    void words(int count) {
        for (int i = 0; i < count; i++) {
            due("word(-1)", i);
        }
    }

    /** Makes this many words, each of which lies in the one ahead of it. */
    void chainOfWords(int count) {
        for (int i = 0; i < count; i++) {
            due("word(" + (i - 1) + ")", i);
        }
    }

    /** Makes this many pictures by person 0, with nobody on them, taken at 0, all of one set. */
    void pictures(int count) {
        for (int i = 0; i < count; i++) {
            due("picture(0, 0, 0, 0)", i);
        }
    }

    /** Brings a text of up to 120 characters onto the tape, and nothing else. */
    void type(String text) {
        due("end(0)", 0);
        for (int at = 0; at < text.length(); at += 20) {
            due(feedOf(text, at), at + 20);
        }
        due("end(" + text.length() + ")", text.length());
    }

    /** The call that feeds the twenty characters of the text from a place on, zeros behind its end. */
    static String feedOf(String text, int at) {
        StringBuilder call = new StringBuilder("feed(");
        for (int i = 0; i < 20; i += 4) {
            int four = 0;
            for (int k = at + i; k < at + i + 4; k++) {
                four = four << 8 | (k < text.length() ? text.charAt(k) & 255 : 0);
            }
            call.append(four).append(i < 16 ? ", " : ")");
        }
        return call.toString();
    }

    void text(int picture, String text, int want) {
        type(text);
        due("text(" + picture + ")", want);
    }

    /** What why and by answer of a use told as "picture, land, use, size, beside". */
    void uses(String use, int why, int by) {
        due("why(" + use + ")", why);
        due("by(" + use + ")", by);
    }
}
