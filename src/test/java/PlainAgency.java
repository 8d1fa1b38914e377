import java.math.BigInteger;
import java.util.ArrayList;
import java.util.HashMap;
import java.util.List;
import java.util.Map;
import java.util.TreeMap;
import java.util.TreeSet;
import java.util.regex.Matcher;
import java.util.regex.Pattern;

/**
 * The document told a second time, another way than the class does it and without a thought for its cost: a whole
 * copy of what changes is kept for every minute, and texts are judged by regular expressions.
 */
final class PlainAgency {
    private static final class Known {
        final Map<Integer, Integer> parents = new HashMap<>();
        final Map<Integer, TreeSet<Integer>> has = new HashMap<>();
        final Map<Integer, TreeSet<Integer>> had = new HashMap<>();
        final Map<Integer, Integer> embargoes = new HashMap<>();
        final TreeSet<Integer> leaveless = new TreeSet<>();

        Known copy() {
            Known k = new Known();
            k.parents.putAll(parents);
            has.forEach((picture, words) -> k.has.put(picture, new TreeSet<>(words)));
            had.forEach((picture, words) -> k.had.put(picture, new TreeSet<>(words)));
            k.embargoes.putAll(embargoes);
            k.leaveless.addAll(leaveless);
            return k;
        }

        boolean isBelow(int word, int other) {
            Integer in = parents.get(word);
            return in != null && (in == other || isBelow(in, other));
        }
    }

    private record Picture(int shutter, int taken, long grid, int persons, List<Map<String, List<Integer>>> texts) { }

    private record Sale(int[] told, int[] gets, boolean[] struck) { }

    private static final Pattern TOKEN = Pattern.compile("[a-zA-Z]+|[0-9]+|[^ ]", Pattern.DOTALL);
    private static final String CLAUSES = "(?:[lun]0+;|d00;|m0;)*";
    private static final Pattern WHOLE = Pattern.compile(CLAUSES);
    private static final Pattern BEGUN = Pattern.compile(CLAUSES + "(?:[lun]0*|d0{0,2}|m0?)?");

    private final TreeMap<Integer, Known> known = new TreeMap<>();
    private final List<Picture> pictures = new ArrayList<>();
    private final List<Sale> sales = new ArrayList<>();
    private final List<Integer> printings = new ArrayList<>();
    private final int[] rates = {100, 100, 100, 100, 100};
    private String tape = "";
    private int[] fault = {-1, -1};
    private int clock;
    private int words;
    private int puttings;
    private int captions;
    private int leaves;
    private int embargoes;
    private int limit = 10;
    private int share = 50;

    PlainAgency() {
        known.put(0, new Known());
    }

    private Known now() {
        if (!known.containsKey(clock)) {
            known.put(clock, known.lastEntry().getValue().copy());
        }
        return known.get(clock);
    }

    private Known at(int minute) {
        return known.floorEntry(minute).getValue();
    }

    private static boolean in(int n, int least, int most) {
        return least <= n && n <= most;
    }

    private boolean isWord(int n) {
        return in(n, 0, words - 1);
    }

    private boolean isPicture(int n) {
        return in(n, 0, pictures.size() - 1);
    }

    int minute(int m) {
        if (!in(m, clock, 100000)) {
            return 0;
        }
        clock = m;
        return 1;
    }

    int word(int in) {
        if (words == 40 || in != -1 && !isWord(in)) {
            return -1;
        }
        if (in != -1) {
            now().parents.put(words, in);
        }
        return words++;
    }

    int put(int word, int in) {
        if (!isWord(word) || in != -1 && !isWord(in) || in == word || puttings == 100) {
            return 0;
        }
        if (in == -1) {
            now().parents.remove(word);
        } else if (now().isBelow(in, word)) {
            return 0;
        } else {
            now().parents.put(word, in);
        }
        puttings++;
        return 1;
    }

    int within(int word, int minute) {
        return in(minute, 0, clock) ? at(minute).parents.getOrDefault(word, -1) : -1;
    }

    int picture(int shutter, int taken, long grid, int persons) {
        if (!in(shutter, 0, 15) || !in(taken, 0, 100000) || !in(persons, 0, 65535) || pictures.size() == 40) {
            return -1;
        }
        pictures.add(new Picture(shutter, taken, grid, persons, new ArrayList<>()));
        return pictures.size() - 1;
    }

    int caption(int picture, int word, boolean gets) {
        if (!isPicture(picture) || !isWord(word) || captions == 200) {
            return 0;
        }
        TreeSet<Integer> has = now().has.computeIfAbsent(picture, k -> new TreeSet<>());
        if (has.contains(word) == gets) {
            return 0;
        }
        captions++;
        if (gets) {
            has.add(word);
            now().had.computeIfAbsent(picture, k -> new TreeSet<>()).add(word);
        } else {
            has.remove(word);
        }
        return 1;
    }

    int has(int picture, int word, int minute, boolean old) {
        if (!isPicture(picture) || !isWord(word) || !in(minute, 0, clock)) {
            return -1;
        }
        Known k = at(minute);
        for (int w : (old ? k.had : k.has).getOrDefault(picture, new TreeSet<>())) {
            if (w == word || k.isBelow(w, word)) {
                return 1;
            }
        }
        return 0;
    }

    private List<Integer> hits(int word, int minute, boolean old) {
        List<Integer> hits = new ArrayList<>();
        for (int p = 0; p < pictures.size(); p++) {
            if (has(p, word, minute, old) == 1) {
                hits.add(p);
            }
        }
        return hits;
    }

    int search(int word, int minute, boolean old) {
        return isWord(word) && in(minute, 0, clock) ? hits(word, minute, old).size() : -1;
    }

    int found(int word, int minute, boolean old, int i) {
        if (!isWord(word) || !in(minute, 0, clock)) {
            return -1;
        }
        List<Integer> hits = hits(word, minute, old);
        return in(i, 0, hits.size() - 1) ? hits.get(i) : -1;
    }

    int far(int a, int b) {
        if (!isPicture(a) || !isPicture(b)) {
            return -1;
        }
        String left = String.format("%016x", pictures.get(a).grid());
        String right = String.format("%016x", pictures.get(b).grid());
        int sum = 0;
        for (int i = 0; i < 16; i++) {
            sum += Math.abs(Character.digit(left.charAt(i), 16) - Character.digit(right.charAt(i), 16));
        }
        return sum;
    }

    int limit(int v) {
        if (!in(v, 0, 240)) {
            return 0;
        }
        limit = v;
        return 1;
    }

    private TreeSet<Integer> setOf(int picture) {
        TreeSet<Integer> set = new TreeSet<>();
        set.add(picture);
        int before;
        do {
            before = set.size();
            for (int other = 0; other < pictures.size(); other++) {
                for (int member : set.toArray(new Integer[0])) {
                    if (far(member, other) <= limit) {
                        set.add(other);
                    }
                }
            }
        } while (set.size() > before);
        return set;
    }

    private int firstOf(int picture) {
        int first = -1;
        for (int member : setOf(picture)) {
            if (first == -1 || pictures.get(member).taken() < pictures.get(first).taken()) {
                first = member;
            }
        }
        return first;
    }

    int set(int picture, int what) {
        if (!isPicture(picture) || !in(what, 0, 1)) {
            return -1;
        }
        return what == 0 ? firstOf(picture) : setOf(picture).size();
    }

    int leave(int person, boolean given) {
        if (!in(person, 0, 15) || leaves == 100) {
            return 0;
        }
        leaves++;
        if (given) {
            now().leaveless.remove(person);
        } else {
            now().leaveless.add(person);
        }
        return 1;
    }

    int embargo(int picture, int minute) {
        if (!isPicture(picture) || !in(minute, 0, 100000) || embargoes == 100) {
            return 0;
        }
        embargoes++;
        now().embargoes.put(picture, minute);
        return 1;
    }

    int known(int number, int minute, boolean person) {
        if (!in(minute, 0, clock) || (person ? !in(number, 0, 15) : !isPicture(number))) {
            return -1;
        }
        if (person) {
            return at(minute).leaveless.contains(number) ? 0 : 1;
        }
        return at(minute).embargoes.getOrDefault(number, 0);
    }

    int feed(int a, int b, int c, int d, int e) {
        if (tape.length() > 100) {
            return -1;
        }
        for (int four : new int[] {a, b, c, d, e}) {
            String hex = String.format("%08x", four);
            for (int i = 0; i < 8; i += 2) {
                tape += (char) Integer.parseInt(hex.substring(i, i + 2), 16);
            }
        }
        return tape.length();
    }

    int end(int n) {
        if (!in(n, 0, tape.length())) {
            return -1;
        }
        tape = tape.substring(0, n);
        return n;
    }

    int text(int picture) {
        if (!isPicture(picture) || pictures.get(picture).texts().size() == 3) {
            return -1;
        }
        Map<String, List<Integer>> clauses = new HashMap<>();
        fault = judge(tape, clauses);
        tape = "";
        if (fault[0] != 0) {
            return -1;
        }
        pictures.get(picture).texts().add(clauses);
        return pictures.get(picture).texts().size();
    }

    private int[] judge(String text, Map<String, List<Integer>> clauses) {
        String shape = "";
        String clause = "";
        Matcher m = TOKEN.matcher(text);
        while (m.find()) {
            String token = m.group();
            boolean isWord = List.of("land", "use", "days", "most", "not").contains(token);
            boolean isNumber = token.matches("[0-9]+");
            shape += isWord ? token.substring(0, 1) : isNumber ? "0" : token.equals(";") ? ";" : "?";
            if (!BEGUN.matcher(shape).matches()) {
                return new int[] {1, m.start()};
            }
            if (isWord && clauses.containsKey(token)) {
                return new int[] {2, m.start()};
            }
            if (isWord) {
                clause = token;
                clauses.put(clause, new ArrayList<>());
            }
            if (isNumber) {
                int n = new BigInteger(token).min(BigInteger.valueOf(1000000)).intValue();
                if (!isOneTold(clause, clauses.get(clause), n)) {
                    return new int[] {3, m.start()};
                }
                clauses.get(clause).add(n);
            }
        }
        return WHOLE.matcher(shape).matches() ? new int[] {0, -1} : new int[] {1, text.length()};
    }

    private boolean isOneTold(String clause, List<Integer> before, int n) {
        return switch (clause) {
            case "land" -> n <= 9;
            case "use" -> n <= 4;
            case "days" -> n <= 100000 && (before.isEmpty() || before.get(0) <= n);
            case "most" -> in(n, 1, 1000);
            default -> isWord(n);
        };
    }

    int fault(int what) {
        return in(what, 0, 1) ? fault[what] : -1;
    }

    /** WHY, and by what. */
    private int[] judge(int picture, int land, int use, int size, int beside) {
        if (!isPicture(picture) || !in(land, 0, 9) || !in(use, 0, 4) || !in(size, 1, 1000)
                || beside != -1 && !isWord(beside)) {
            return new int[] {-1, -1};
        }
        if (known(picture, clock, false) > clock) {
            return new int[] {1, -1};
        }
        Picture p = pictures.get(picture);
        for (int i = 0; i < p.texts().size(); i++) {
            if (!lets(p.texts().get(i), land, use, size, beside)) {
                return new int[] {2, i};
            }
        }
        for (int person : at(clock).leaveless) {
            if ((p.persons() & 1 << person) != 0) {
                return new int[] {3, person};
            }
        }
        for (int i = 0; i < sales.size(); i++) {
            Sale s = sales.get(i);
            if (!s.struck()[0] && s.told()[5] != -1 && s.told()[5] >= clock && s.told()[1] == land
                    && setOf(picture).contains(s.told()[0])) {
                return new int[] {4, i};
            }
        }
        return new int[] {0, -1};
    }

    private boolean lets(Map<String, List<Integer>> text, int land, int use, int size, int beside) {
        if (text.containsKey("land") && !text.get("land").contains(land)
                || text.containsKey("use") && !text.get("use").contains(use)
                || text.containsKey("most") && size > text.get("most").get(0)
                || text.containsKey("days") && !in(clock, text.get("days").get(0), text.get("days").get(1))) {
            return false;
        }
        for (int word : text.getOrDefault("not", List.of())) {
            if (beside == word || at(clock).isBelow(beside, word)) {
                return false;
            }
        }
        return true;
    }

    int why(int picture, int land, int use, int size, int beside) {
        return judge(picture, land, use, size, beside)[0];
    }

    int by(int picture, int land, int use, int size, int beside) {
        return judge(picture, land, use, size, beside)[1];
    }

    int rate(int use, int v) {
        if (use == -1 && in(v, 0, 100)) {
            share = v;
            return 1;
        }
        if (in(use, 0, 4) && in(v, 0, 100000)) {
            rates[use] = v;
            return 1;
        }
        return 0;
    }

    int sale(int picture, int land, int use, int size, int beside, int until) {
        if (why(picture, land, use, size, beside) != 0 || until != -1 && !in(until, clock, 100000)
                || sales.size() == 60) {
            return -1;
        }
        int price = rates[use] * size * (until == -1 ? 1 : 2);
        int own = pictures.get(picture).shutter();
        int first = pictures.get(firstOf(picture)).shutter();
        int part = BigInteger.valueOf(price).multiply(BigInteger.valueOf(share)).divide(BigInteger.valueOf(100))
                .intValueExact();
        int tenth = own == first ? 0 : part / 10;
        sales.add(new Sale(new int[] {picture, land, use, size, clock, until, price, part - tenth, tenth},
                new int[] {own, first}, new boolean[1]));
        return sales.size() - 1;
    }

    int strike(int sale) {
        if (!in(sale, 0, sales.size() - 1) || sales.get(sale).struck()[0]) {
            return 0;
        }
        sales.get(sale).struck()[0] = true;
        return 1;
    }

    int saleOf(int sale, int what) {
        if (!in(sale, 0, sales.size() - 1) || !in(what, 0, 10)) {
            return -1;
        }
        if (what == 9) {
            return sales.get(sale).struck()[0] ? 1 : 0;
        }
        return what == 10 ? printings.indexOf(sale) : sales.get(sale).told()[what];
    }

    long got(int person) {
        long sum = 0;
        for (Sale s : sales) {
            if (s.struck()[0]) {
                continue;
            }
            int[] t = s.told();
            if (person == -1) {
                sum += t[6] - t[7] - t[8];
            }
            sum += s.gets()[0] == person ? t[7] : 0;
            sum += s.gets()[1] == person ? t[8] : 0;
        }
        return sum;
    }

    int print(int picture, int land, int use, int size) {
        if (!isPicture(picture) || !in(land, 0, 9) || !in(use, 0, 4) || !in(size, 1, 1000)
                || printings.size() == 60) {
            return -1;
        }
        int led = -1;
        for (int i = sales.size() - 1; i >= 0; i--) {
            int[] t = sales.get(i).told();
            if (!sales.get(i).struck()[0] && !printings.contains(i) && t[1] == land && t[2] == use && t[3] >= size
                    && setOf(picture).contains(t[0])) {
                led = i;
            }
        }
        printings.add(led);
        return printings.size() - 1;
    }

    int printed(int p) {
        return in(p, 0, printings.size() - 1) ? printings.get(p) : -1;
    }

    int about(int what) {
        int claims = (int) printings.stream().filter(sale -> sale == -1).count();
        int[] told = {words, pictures.size(), clock, sales.size(), printings.size(), claims, limit, share,
            tape.length()};
        return in(what, 0, 8) ? told[what] : -1;
    }
}
