import java.util.Arrays;
import java.util.Random;

/** All promises: runs of up to 512 random calls, the same in every run of the test, against the plain agency. */
public final class RandomRunsTest {
    private static final Checks C = new Checks("RandomRunsTest");
    private static final int RUNS = 1500;
    private static final int MOST_CALLS = 512;
    private static final int CALLS_OF_A_TEXT = 9;
    private static final int[] ODD = {-2, -1, 40, 41, 60, 65536, 100001, Integer.MAX_VALUE, Integer.MIN_VALUE};

    private final Random random;
    private final int kind;
    private final PictureAgency x = new PictureAgency();
    private final PlainAgency plain = new PlainAgency();
    private int calls;

    private RandomRunsTest(int seed) {
        random = new Random(seed);
        kind = seed % 5;
    }

    public static void main(String[] args) {
        for (int seed = 0; seed < RUNS; seed++) {
            new RandomRunsTest(seed).run(seed);
        }
        C.finish();
    }

    private void run(int seed) {
        // What an object answers after its 512th call is free.
        while (calls + CALLS_OF_A_TEXT <= MOST_CALLS) {
            call(seed, pick());
        }
    }

    /** Which method is called: each kind of run has one part of the class that is called oftener. */
    private int pick() {
        int[][] often = {{3, 4, 5, 7, 8, 9, 10}, {6, 11, 12, 13, 24, 28}, {14, 15, 16, 21, 22, 2},
            {17, 18, 19, 19, 20, 21, 22}, {23, 24, 24, 25, 26, 27, 28, 29}};
        if (random.nextInt(100) < 50) {
            return often[kind][random.nextInt(often[kind].length)];
        }
        return 2 + random.nextInt(29);
    }

    private int some(int most) {
        if (random.nextInt(25) == 0) {
            return ODD[random.nextInt(ODD.length)];
        }
        return random.nextInt(most);
    }

    private int someWord() {
        return some(Math.max(1, plain.about(0) + (random.nextInt(8) == 0 ? 1 : 0)));
    }

    private int somePicture() {
        return some(Math.max(1, plain.about(1) + (random.nextInt(8) == 0 ? 1 : 0)));
    }

    private int wordOrNone() {
        return random.nextInt(3) == 0 ? -1 : someWord();
    }

    private int past() {
        return random.nextInt(6) == 0 ? some(100002) : plain.about(2) - random.nextInt(12);
    }

    private int coming() {
        return random.nextInt(8) == 0 ? some(100002) : plain.about(2) + random.nextInt(6) - 1;
    }

    private int someLand() {
        return some(random.nextInt(10) == 0 ? 11 : 3);
    }

    private int someUse() {
        return some(random.nextInt(10) == 0 ? 6 : 2);
    }

    private int someSize() {
        return random.nextInt(4) == 0 ? some(1003) : 1 + some(12);
    }

    private long someGrid() {
        if (random.nextInt(4) == 0) {
            return random.nextLong();
        }
        long grid = 0L;
        for (int i = 0; i < 3; i++) {
            grid += (long) random.nextInt(8) << 4 * random.nextInt(16);
        }
        return grid;
    }

    private void same(int seed, int method, int[] args, long got, long want) {
        calls++;
        C.due("run " + seed + ", promise " + method + " with " + Arrays.toString(args), got, want);
    }

    private void call(int seed, int method) {
        if (method <= 10) {
            callOfWordsAndPictures(seed, method);
        } else if (method <= 20) {
            callOfLikenessAndRights(seed, method);
        } else {
            callOfUsesAndSales(seed, method);
        }
    }

    private static int bit(boolean b) {
        return b ? 1 : 0;
    }

    private void callOfWordsAndPictures(int seed, int method) {
        boolean b = random.nextInt(3) != 0;
        int[] a = new int[4];
        switch (method) {
            case 2 -> {
                a[0] = coming();
                same(seed, method, a, bit(x.minute(a[0])), plain.minute(a[0]));
            }
            case 3 -> {
                a[0] = wordOrNone();
                same(seed, method, a, x.word(a[0]), plain.word(a[0]));
            }
            case 4 -> {
                a[0] = someWord();
                a[1] = wordOrNone();
                same(seed, method, a, bit(x.put(a[0], a[1])), plain.put(a[0], a[1]));
            }
            case 5 -> {
                a[0] = someWord();
                a[1] = past();
                same(seed, method, a, x.within(a[0], a[1]), plain.within(a[0], a[1]));
            }
            case 6 -> {
                a[0] = some(random.nextInt(4) == 0 ? 17 : 3);
                a[1] = some(random.nextInt(4) == 0 ? 100002 : 6);
                a[2] = random.nextInt(6) == 0 ? some(65537) : 1 << random.nextInt(16);
                long grid = someGrid();
                same(seed, method, a, x.picture(a[0], a[1], grid, a[2]), plain.picture(a[0], a[1], grid, a[2]));
            }
            case 7 -> {
                a[0] = somePicture();
                a[1] = someWord();
                same(seed, method, a, bit(x.caption(a[0], a[1], b)), plain.caption(a[0], a[1], b));
            }
            case 8 -> {
                a[0] = somePicture();
                a[1] = someWord();
                a[2] = past();
                same(seed, method, a, x.has(a[0], a[1], a[2], b), plain.has(a[0], a[1], a[2], b));
            }
            case 9 -> {
                a[0] = someWord();
                a[1] = past();
                same(seed, method, a, x.search(a[0], a[1], b), plain.search(a[0], a[1], b));
            }
            default -> {
                a[0] = someWord();
                a[1] = past();
                a[2] = some(5);
                same(seed, method, a, x.found(a[0], a[1], b, a[2]), plain.found(a[0], a[1], b, a[2]));
            }
        }
    }

    private void callOfLikenessAndRights(int seed, int method) {
        boolean b = random.nextInt(3) != 0;
        int[] a = new int[5];
        switch (method) {
            case 11 -> {
                a[0] = somePicture();
                a[1] = somePicture();
                same(seed, method, a, x.far(a[0], a[1]), plain.far(a[0], a[1]));
            }
            case 12 -> {
                a[0] = random.nextInt(3) == 0 ? some(242) : some(30);
                same(seed, method, a, bit(x.limit(a[0])), plain.limit(a[0]));
            }
            case 13 -> {
                a[0] = somePicture();
                a[1] = random.nextInt(12) == 0 ? some(3) : random.nextInt(2);
                same(seed, method, a, x.set(a[0], a[1]), plain.set(a[0], a[1]));
            }
            case 14 -> {
                a[0] = some(17);
                same(seed, method, a, bit(x.leave(a[0], b)), plain.leave(a[0], b));
            }
            case 15 -> {
                a[0] = somePicture();
                a[1] = coming();
                same(seed, method, a, bit(x.embargo(a[0], a[1])), plain.embargo(a[0], a[1]));
            }
            case 16 -> {
                a[0] = b ? some(17) : somePicture();
                a[1] = past();
                same(seed, method, a, x.known(a[0], a[1], b), plain.known(a[0], a[1], b));
            }
            case 17, 18, 19 -> callOfTape(seed, method, a);
            default -> {
                a[0] = some(3);
                same(seed, method, a, x.fault(a[0]), plain.fault(a[0]));
            }
        }
    }

    private void callOfTape(int seed, int method, int[] a) {
        if (method == 19) {
            if (random.nextInt(4) != 0) {
                typeText(seed);
            }
            a[0] = somePicture();
            same(seed, method, a, x.text(a[0]), plain.text(a[0]));
        } else if (method == 18) {
            a[0] = some(130);
            same(seed, method, a, x.end(a[0]), plain.end(a[0]));
        } else {
            feedSome(seed, a, random.nextBoolean() ? someText() : "");
        }
    }

    private void feedSome(int seed, int[] a, String text) {
        for (int i = 0; i < 20; i++) {
            int letter = i < text.length() ? text.charAt(i) : ' ';
            a[i / 4] = a[i / 4] << 8 | letter;
        }
        same(seed, 17, a, x.feed(a[0], a[1], a[2], a[3], a[4]), plain.feed(a[0], a[1], a[2], a[3], a[4]));
    }

    private void typeText(int seed) {
        String text = someText();
        same(seed, 18, new int[1], x.end(0), plain.end(0));
        for (int at = 0; at < text.length() && at < 120; at += 20) {
            feedSome(seed, new int[5], text.substring(at));
        }
        int length = Math.min(text.length(), 120);
        same(seed, 18, new int[] {length}, x.end(length), plain.end(length));
    }

    private String someText() {
        String[] names = {"land", "use", "days", "most", "not"};
        StringBuilder text = new StringBuilder();
        int clauses = random.nextInt(4);
        int name = random.nextInt(5);
        for (int i = 0; i < clauses; i++) {
            name = (name + (random.nextInt(15) == 0 ? 0 : 1)) % 5;
            text.append(blanks()).append(names[name]);
            int numbers = name == 2 ? 2 : name == 3 ? 1 : 1 + random.nextInt(5);
            numbers += random.nextInt(30) == 0 ? 1 : 0;
            for (int k = 0; k < numbers; k++) {
                text.append(' ').append(blanks()).append(someNumber(name, k));
            }
            text.append(blanks()).append(';');
        }
        text.append(blanks());
        if (random.nextInt(8) == 0 && text.length() > 0) {
            text.setCharAt(random.nextInt(text.length()), (char) random.nextInt(256));
        }
        if (random.nextInt(8) == 0 && text.length() > 0) {
            text.deleteCharAt(random.nextInt(text.length()));
        }
        return text.toString();
    }

    private String blanks() {
        return " ".repeat(random.nextInt(3));
    }

    private String someNumber(int name, int place) {
        if (random.nextInt(40) == 0) {
            return String.valueOf(random.nextLong() >>> random.nextInt(64) & Long.MAX_VALUE);
        }
        String zeros = random.nextInt(10) == 0 ? "00" : "";
        int words = plain.about(0) + (random.nextInt(10) == 0 ? 1 : 0);
        int[] most = {10, 5, 0, 30, Math.max(words, 1)};
        int clock = plain.about(2);
        int number = name == 2 ? Math.max(0, clock + (place == 0 ? -3 : 3) + random.nextInt(8) - 3)
                : random.nextInt(most[name] + (random.nextInt(20) == 0 ? 2 : 0));
        return zeros + number;
    }

    private void callOfUsesAndSales(int seed, int method) {
        int[] a = {somePicture(), someLand(), someUse(), someSize(), random.nextInt(2) == 0 ? -1 : someWord(),
            random.nextInt(2) == 0 ? -1 : coming()};
        int number = some(Math.max(1, Math.max(plain.about(3), plain.about(4)) + 1));
        switch (method) {
            case 21 -> same(seed, method, a, x.why(a[0], a[1], a[2], a[3], a[4]),
                    plain.why(a[0], a[1], a[2], a[3], a[4]));
            case 22 -> same(seed, method, a, x.by(a[0], a[1], a[2], a[3], a[4]),
                    plain.by(a[0], a[1], a[2], a[3], a[4]));
            case 23 -> {
                a[0] = some(7) - 1;
                a[1] = a[0] == -1 ? some(102) : some(random.nextInt(2) == 0 ? 300 : 100002);
                same(seed, method, a, bit(x.rate(a[0], a[1])), plain.rate(a[0], a[1]));
            }
            case 24 -> same(seed, method, a, x.sale(a[0], a[1], a[2], a[3], a[4], a[5]),
                    plain.sale(a[0], a[1], a[2], a[3], a[4], a[5]));
            case 25 -> same(seed, method, new int[] {number}, bit(x.strike(number)), plain.strike(number));
            case 26 -> {
                a[1] = some(12);
                same(seed, method, new int[] {number, a[1]}, x.saleOf(number, a[1]), plain.saleOf(number, a[1]));
            }
            case 27 -> {
                a[0] = random.nextInt(6) == 0 ? some(18) : some(4) - 1;
                same(seed, method, a, x.got(a[0]), plain.got(a[0]));
            }
            case 28 -> same(seed, method, a, x.print(a[0], a[1], a[2], a[3]),
                    plain.print(a[0], a[1], a[2], a[3]));
            case 29 -> same(seed, method, new int[] {number}, x.printed(number), plain.printed(number));
            default -> {
                a[0] = some(10);
                same(seed, method, a, x.about(a[0]), plain.about(a[0]));
            }
        }
    }
}
