import java.util.ArrayList;
import java.util.List;
import java.util.TreeSet;

/**
 * What later calls could show of an object that was made by some calls: lists of calls, each list for an object of
 * its own. Questions show what is kept; deeds, made till they are refused, show also what is only counted.
 */
final class Probes {
    private static final int MOST_MINUTES = 6;
    private static final int MOST_PAIRS = 400;

    private final int room;
    private final PictureAgency scout = new PictureAgency();
    private final int words;
    private final int pictures;
    private final int clock;
    private final int sales;
    private final int printings;
    private final TreeSet<Integer> minutes = new TreeSet<>();
    private final List<List<Call>> all = new ArrayList<>();
    private List<Call> list = new ArrayList<>();

    private Probes(List<Call> history, int room) {
        this.room = room;
        for (Call call : history) {
            call.on(scout);
        }
        words = scout.about(0);
        pictures = scout.about(1);
        clock = scout.about(2);
        sales = scout.about(3);
        printings = scout.about(4);
        findMinutes(history);
    }

    static List<List<Call>> after(List<Call> history, int room) {
        Probes p = new Probes(history, room);
        p.askOfAll();
        p.askOfWordsAndCaptions();
        p.askOfPictures();
        p.askOfUses();
        p.askOfSales();
        p.endQuestions();
        p.doWithWords();
        p.doWithPictures();
        p.doWithRights();
        p.doWithTexts();
        p.doWithSales();
        p.doWithPrintings();
        return p.all;
    }

    private void findMinutes(List<Call> history) {
        minutes.add(0);
        minutes.add(clock);
        for (Call call : history) {
            int m = call.firstNumber();
            if (call.isOf("minute") && m > 0 && m <= clock && minutes.size() < MOST_MINUTES) {
                minutes.add(m - 1);
                minutes.add(m);
            }
        }
    }

    private void add(String name, Object... args) {
        StringBuilder text = new StringBuilder(name).append('(');
        for (int i = 0; i < args.length; i++) {
            text.append(i == 0 ? "" : ", ").append(args[i]);
        }
        list.add(Call.of(text.append(')').toString()));
    }

    private void endQuestions() {
        for (int at = 0; at < list.size(); at += room) {
            all.add(list.subList(at, Math.min(at + room, list.size())));
        }
        list = new ArrayList<>();
    }

    private void endDeeds() {
        all.add(list.subList(0, Math.min(room, list.size())));
        list = new ArrayList<>();
    }

    private void askOfAll() {
        for (int what = 0; what < 9; what++) {
            add("about", what);
        }
        add("fault", 0);
        add("fault", 1);
        for (int person = -1; person < 16; person++) {
            add("got", person);
            if (person >= 0) {
                add("known", person, clock, true);
                add("known", person, minutes.lower(clock) == null ? 0 : minutes.lower(clock), true);
            }
        }
    }

    private void askOfWordsAndCaptions() {
        for (int word = 0; word < words; word++) {
            for (int m : minutes) {
                add("within", word, m);
                add("search", word, m, true);
                add("search", word, m, false);
            }
        }
        for (int i = 0; i < words * pictures && i < MOST_PAIRS; i++) {
            add("has", i % pictures, i / pictures, clock, true);
            add("has", i % pictures, i / pictures, clock, false);
        }
    }

    private void askOfPictures() {
        for (int picture = 0; picture < pictures; picture++) {
            add("far", picture, 0);
            add("far", picture, pictures - 1);
            add("set", picture, 0);
            add("set", picture, 1);
            for (int m : minutes) {
                add("known", picture, m, false);
            }
        }
    }

    private void askOfUses() {
        for (int picture = 0; picture < pictures; picture++) {
            if (picture < 3 || picture == pictures - 1) {
                askOfUsesOf(picture);
            }
        }
    }

    private void askOfUsesOf(int picture) {
        for (int land = 0; land < 10; land++) {
            add("by", picture, land, 0, 1, -1);
            add("why", picture, land, 0, 1, -1);
        }
        for (int use = 0; use < 5; use++) {
            add("by", picture, 0, use, 1000, -1);
            add("why", picture, 9, use, 1000, -1);
        }
        for (int word = 0; word < words; word++) {
            add("by", picture, 9, 4, 1, word);
        }
    }

    private void askOfSales() {
        for (int sale = 0; sale < sales; sale++) {
            for (int what = 0; what <= 10; what++) {
                add("saleOf", sale, what);
            }
        }
        for (int printing = 0; printing < printings; printing++) {
            add("printed", printing);
        }
    }

    private void doWithWords() {
        add("minute", clock - 1);
        add("minute", clock);
        for (int i = 0; i <= 40; i++) {
            add("word", -1);
        }
        endDeeds();
        for (int i = 0; i <= 100; i++) {
            add("put", 0, -1);
        }
        endDeeds();
        for (int i = 0; i <= 201; i++) {
            add("caption", 0, 0, i % 2 == 0);
        }
        endDeeds();
    }

    private void doWithPictures() {
        for (int i = 0; i <= 40; i++) {
            add("picture", 0, 0, 0, 0);
        }
        add("set", 0, 1);
        endDeeds();
    }

    private void doWithRights() {
        for (int i = 0; i <= 100; i++) {
            add("leave", 0, true);
        }
        endDeeds();
        for (int i = 0; i <= 100; i++) {
            add("embargo", 0, 0);
        }
        endDeeds();
    }

    private void doWithTexts() {
        int picture = pictureToAdd();
        add("text", picture);
        add("fault", 0);
        add("fault", 1);
        askOfUsesOf(picture);
        endDeeds();
        for (int i = 0; i < 7; i++) {
            add("feed", 0, 0, 0, 0, 0);
        }
        add("text", picture);
        add("fault", 1);
        endDeeds();
        add("end", 0);
        for (int i = 0; i < 4 * pictures; i++) {
            add("text", i / 4);
        }
        endDeeds();
    }

    private int pictureToAdd() {
        add("picture", 0, 0, 0, 0);
        return Math.min(pictures, 39);
    }

    private void doWithSales() {
        int picture = pictureToAdd();
        for (int use = 0; use < 5; use++) {
            add("sale", picture, 9, use, 1, -1, -1);
            add("saleOf", sales + use, 6);
            add("saleOf", sales + use, 7);
        }
        endDeeds();
        for (int i = 0; i <= 60; i++) {
            add("sale", 0, 0, 0, 1, -1, -1);
        }
        endDeeds();
        for (int sale = 0; sale < sales; sale++) {
            add("strike", sale);
        }
        askOfAll();
        endDeeds();
    }

    private void doWithPrintings() {
        for (int sale = 0; sale < sales; sale++) {
            add("print", scout.saleOf(sale, 0), scout.saleOf(sale, 1), scout.saleOf(sale, 2),
                    scout.saleOf(sale, 3));
            add("saleOf", sale, 10);
        }
        for (int i = 0; i <= 60; i++) {
            add("print", 0, 0, 0, 1);
        }
        add("about", 5);
        endDeeds();
    }
}
