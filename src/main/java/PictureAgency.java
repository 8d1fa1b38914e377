import java.util.Arrays;

/** A picture agency: pictures, their captions and rights, and what is sold and printed of them. */
public final class PictureAgency {
    public static final int NONE = -1;

    private static final int LAST_MINUTE = 100000;
    private static final int ALL_PERSONS = 16;
    private static final int ALL_LANDS = 10;
    private static final int ALL_USES = 5;
    private static final int MOST_WORDS = 40;
    private static final int MOST_PUTTINGS = 100;
    private static final int MOST_PICTURES = 40;
    private static final int MOST_CAPTIONS = 200;
    private static final int MOST_LEAVES = 100;
    private static final int MOST_EMBARGOES = 100;
    private static final int MOST_TEXTS = 3;
    private static final int MOST_SALES = 60;
    private static final int MOST_PRINTINGS = 60;
    private static final int TAPE_LENGTH = 120;
    private static final int FED_AT_ONCE = 20;
    private static final int GRID_NUMBERS = 16;
    private static final int GREATEST_LIMIT = 240;
    private static final int GREATEST_SIZE = 1000;
    private static final int GREATEST_RATE = 100000;
    private static final int GREATEST_SHARE = 100;

    private static final int LET = 0;
    private static final int BY_EMBARGO = 1;
    private static final int BY_TEXT = 2;
    private static final int BY_PERSON = 3;
    private static final int BY_SALE = 4;

    private final WordTree tree;
    private final Album album;
    private final Captions captions;
    private final Log leaves;
    private final Log embargoes;
    private final Reader reader;
    private final Tape tape;
    private final Shelf shelf;
    private final Ledger ledger;
    private final int[] rates;
    private int share;
    private int clock;

    public PictureAgency() {
        tree = new WordTree();
        album = new Album();
        captions = new Captions();
        leaves = new Log(MOST_LEAVES);
        embargoes = new Log(MOST_EMBARGOES);
        reader = new Reader();
        tape = reader.tape;
        shelf = new Shelf();
        ledger = new Ledger();
        rates = new int[ALL_USES];
        Arrays.fill(rates, 100);
        share = 50;
        clock = 0;
    }

    public boolean minute(int m) {
        if (!isMinute(m) || m < clock) {
            return false;
        }
        clock = m;
        return true;
    }

    public int word(int in) {
        return tree.add(in, clock);
    }

    public boolean put(int word, int in) {
        return tree.move(word, in, clock);
    }

    public int within(int word, int minute) {
        return isPast(minute) ? tree.parentOf(word, minute) : NONE;
    }

    public int picture(int shutter, int taken, long grid, int persons) {
        boolean isSet = persons >= 0 && persons < 1 << ALL_PERSONS;
        if (!isPerson(shutter) || !isMinute(taken) || !isSet) {
            return NONE;
        }
        return album.add(shutter, taken, grid, persons);
    }

    public boolean caption(int picture, int word, boolean gets) {
        if (!album.isPicture(picture) || !tree.isWord(word)) {
            return false;
        }
        return captions.change(picture, word, gets, clock);
    }

    public int has(int picture, int word, int minute, boolean old) {
        if (!album.isPicture(picture) || !tree.isWord(word) || !isPast(minute)) {
            return NONE;
        }
        return holds(picturesWith(word, minute, old), picture) ? 1 : 0;
    }

    public int search(int word, int minute, boolean old) {
        if (!tree.isWord(word) || !isPast(minute)) {
            return NONE;
        }
        return Long.bitCount(picturesWith(word, minute, old));
    }

    public int found(int word, int minute, boolean old, int i) {
        if (!tree.isWord(word) || !isPast(minute)) {
            return NONE;
        }
        long hits = picturesWith(word, minute, old);
        int ahead = 0;
        for (int picture = 0; picture < MOST_PICTURES; picture++) {
            if (holds(hits, picture)) {
                if (ahead == i) {
                    return picture;
                }
                ahead++;
            }
        }
        return NONE;
    }

    public int far(int a, int b) {
        return album.distance(a, b);
    }

    public boolean limit(int v) {
        if (v < 0 || v > GREATEST_LIMIT) {
            return false;
        }
        album.likeness = v;
        return true;
    }

    public int set(int picture, int what) {
        if (!album.isPicture(picture)) {
            return NONE;
        }
        switch (what) {
            case 0:
                return album.firstOf(album.setOf(picture));
            case 1:
                return Long.bitCount(album.setOf(picture));
            default:
                return NONE;
        }
    }

    public boolean leave(int person, boolean given) {
        return isPerson(person) && leaves.tell(clock, person, given ? 1 : 0);
    }

    public boolean embargo(int picture, int minute) {
        return album.isPicture(picture) && isMinute(minute) && embargoes.tell(clock, picture, minute);
    }

    public int known(int number, int minute, boolean person) {
        if (!isPast(minute)) {
            return NONE;
        }
        if (person) {
            return isPerson(number) ? leaves.latest(number, minute, 1) : NONE;
        }
        return album.isPicture(number) ? embargoes.latest(number, minute, 0) : NONE;
    }

    public int feed(int a, int b, int c, int d, int e) {
        if (tape.length + FED_AT_ONCE > TAPE_LENGTH) {
            return NONE;
        }
        tape.append(a);
        tape.append(b);
        tape.append(c);
        tape.append(d);
        tape.append(e);
        return tape.length;
    }

    public int end(int n) {
        if (n < 0 || n > tape.length) {
            return NONE;
        }
        tape.length = n;
        return n;
    }

    public int text(int picture) {
        if (!album.isPicture(picture) || !shelf.hasRoom(picture)) {
            return NONE;
        }
        Terms terms = reader.readTape(tree.count);
        tape.length = 0;
        return terms == null ? NONE : shelf.add(picture, terms);
    }

    public int fault(int what) {
        if (!reader.hasRead) {
            return NONE;
        }
        switch (what) {
            case 0:
                return reader.failure;
            case 1:
                return reader.place;
            default:
                return NONE;
        }
    }

    public int why(int picture, int land, int use, int size, int beside) {
        boolean isBeside = beside == NONE || tree.isWord(beside);
        if (!isBeside || !canBeUsed(picture, land, use, size)) {
            return NONE;
        }
        if (embargoes.latest(picture, clock, 0) > clock) {
            return BY_EMBARGO;
        }
        if (textAgainst(picture, land, use, size, beside) != NONE) {
            return BY_TEXT;
        }
        if (personAgainst(picture) != NONE) {
            return BY_PERSON;
        }
        return saleAgainst(picture, land) != NONE ? BY_SALE : LET;
    }

    public int by(int picture, int land, int use, int size, int beside) {
        switch (why(picture, land, use, size, beside)) {
            case BY_TEXT:
                return textAgainst(picture, land, use, size, beside);
            case BY_PERSON:
                return personAgainst(picture);
            case BY_SALE:
                return saleAgainst(picture, land);
            default:
                return NONE;
        }
    }

    public boolean rate(int use, int v) {
        if (use == NONE && v >= 0 && v <= GREATEST_SHARE) {
            share = v;
            return true;
        }
        if (isUse(use) && v >= 0 && v <= GREATEST_RATE) {
            rates[use] = v;
            return true;
        }
        return false;
    }

    public int sale(int picture, int land, int use, int size, int beside, int until) {
        boolean isUntil = until == NONE || (isMinute(until) && until >= clock);
        if (!isUntil || !ledger.hasRoom() || why(picture, land, use, size, beside) != LET) {
            return NONE;
        }
        Sale made = new Sale(picture, land, use, size, clock, until);
        split(made);
        return ledger.add(made);
    }

    public boolean strike(int sale) {
        Sale asked = ledger.saleAt(sale);
        if (asked == null || asked.struck) {
            return false;
        }
        asked.struck = true;
        return true;
    }

    public int saleOf(int sale, int what) {
        Sale asked = ledger.saleAt(sale);
        return asked == null ? NONE : asked.tellOf(what);
    }

    public long got(int person) {
        if (person == NONE) {
            return ledger.gainOfAgency();
        }
        return isPerson(person) ? ledger.gainOf(person) : 0L;
    }

    public int print(int picture, int land, int use, int size) {
        if (!canBeUsed(picture, land, use, size) || ledger.printings >= MOST_PRINTINGS) {
            return NONE;
        }
        return ledger.lead(ledger.firstFor(album.setOf(picture), land, use, size));
    }

    public int printed(int p) {
        return ledger.ledTo(p);
    }

    public int about(int what) {
        switch (what) {
            case 0:
                return tree.count;
            case 1:
                return album.count;
            case 2:
                return clock;
            case 3:
                return ledger.count;
            case 4:
                return ledger.printings;
            case 5:
                return ledger.claims;
            case 6:
                return album.likeness;
            case 7:
                return share;
            case 8:
                return tape.length;
            default:
                return NONE;
        }
    }

    private static boolean isMinute(int n) {
        return n >= 0 && n <= LAST_MINUTE;
    }

    private static boolean isPerson(int n) {
        return n >= 0 && n < ALL_PERSONS;
    }

    private static boolean isLand(int n) {
        return n >= 0 && n < ALL_LANDS;
    }

    private static boolean isUse(int n) {
        return n >= 0 && n < ALL_USES;
    }

    private static boolean isSize(int n) {
        return n >= 1 && n <= GREATEST_SIZE;
    }

    private static boolean holds(long bits, int n) {
        return n >= 0 && n < 64 && (bits >> n & 1L) != 0L;
    }

    private boolean isPast(int n) {
        return n >= 0 && n <= clock;
    }

    private boolean canBeUsed(int picture, int land, int use, int size) {
        return album.isPicture(picture) && isLand(land) && isUse(use) && isSize(size);
    }

    private long picturesWith(int word, int minute, boolean old) {
        return captions.picturesWithOneOf(tree.treeOf(word, minute), minute, old);
    }

    private int textAgainst(int picture, int land, int use, int size, int beside) {
        long chain = tree.chainOf(beside, clock);
        for (int i = 0; i < MOST_TEXTS; i++) {
            Terms terms = shelf.textAt(picture, i);
            if (terms != null && !terms.allow(land, use, size, clock, chain)) {
                return i;
            }
        }
        return NONE;
    }

    private int personAgainst(int picture) {
        int persons = album.personsOn(picture);
        for (int person = 0; person < ALL_PERSONS; person++) {
            if (holds(persons, person) && leaves.latest(person, clock, 1) == 0) {
                return person;
            }
        }
        return NONE;
    }

    private int saleAgainst(int picture, int land) {
        return ledger.firstShutting(album.setOf(picture), land, clock);
    }

    private void split(Sale made) {
        int rate = isUse(made.use) ? rates[made.use] : 0;
        int price = rate * made.size * (made.until == NONE ? 1 : 2);
        // In long, as the price times the share passes what an int holds.
        int shutters = (int) ((long) price * share / 100L);
        int own = album.shutterOf(made.picture);
        int first = album.shutterOf(album.firstOf(album.setOf(made.picture)));
        int tenth = own == first ? 0 : shutters / 10;
        made.price = price;
        made.shutter = own;
        made.shutterGot = shutters - tenth;
        made.firstShutter = first;
        made.firstGot = tenth;
    }

    /** What was told of things at minutes, kept in the order of the telling. */
    private static final class Log {
        private final int[] minutes;
        private final int[] things;
        private final int[] values;
        private int count;

        Log(int most) {
            int room = Math.max(most, 0);
            minutes = new int[room];
            things = new int[room];
            values = new int[room];
        }

        boolean tell(int minute, int thing, int value) {
            if (count >= minutes.length) {
                return false;
            }
            minutes[count] = minute;
            things[count] = thing;
            values[count] = value;
            count++;
            return true;
        }

        /** The value told latest by the minute; among those of one minute the last one counts. */
        int latest(int thing, int minute, int atFirst) {
            for (int i = count - 1; i >= 0; i--) {
                if (things[i] == thing && minutes[i] <= minute) {
                    return values[i];
                }
            }
            return atFirst;
        }

        /** How many tellings there were by the minute: the clock never goes back, so they stand first. */
        int toldBy(int minute) {
            int told = 0;
            while (told < count && minutes[told] <= minute) {
                told++;
            }
            return told;
        }

        int thingAt(int i) {
            return i >= 0 && i < count ? things[i] : NONE;
        }

        int valueAt(int i) {
            return i >= 0 && i < count ? values[i] : NONE;
        }
    }

    /** The words, and in which other word each of them lay at any minute. */
    private static final class WordTree {
        private final int[] made = new int[MOST_WORDS];
        private final int[] madeIn = new int[MOST_WORDS];
        private final int[] parents = new int[MOST_WORDS];
        private final Log puttings = new Log(MOST_PUTTINGS);
        private int count;

        boolean isWord(int n) {
            return n >= 0 && n < count;
        }

        int add(int in, int minute) {
            if (!canHold(in) || count >= MOST_WORDS) {
                return NONE;
            }
            made[count] = minute;
            madeIn[count] = in;
            count++;
            return count - 1;
        }

        boolean move(int word, int in, int minute) {
            if (!isWord(word) || !canHold(in) || holds(chainOf(in, minute), word)) {
                return false;
            }
            return puttings.tell(minute, word, in);
        }

        int parentOf(int word, int minute) {
            // A word that wasn't made yet lay in none: what is told holds from its minute on.
            if (!isWord(word) || minute < made[word]) {
                return NONE;
            }
            return puttings.latest(word, minute, madeIn[word]);
        }

        /** The word and all that it lies in as at the minute, as bits; no bits for NONE. */
        long chainOf(int word, int minute) {
            recall(minute);
            return climb(word);
        }

        /** The word and all below it as at the minute, as bits. */
        long treeOf(int word, int minute) {
            recall(minute);
            long members = 0L;
            for (int below = 0; below < count; below++) {
                if (holds(climb(below), word)) {
                    members |= 1L << below;
                }
            }
            return members;
        }

        private boolean canHold(int in) {
            return in == NONE || isWord(in);
        }

        private void recall(int minute) {
            for (int word = 0; word < count; word++) {
                parents[word] = minute < made[word] ? NONE : madeIn[word];
            }
            int told = puttings.toldBy(minute);
            for (int i = 0; i < told; i++) {
                int word = puttings.thingAt(i);
                if (isWord(word)) {
                    parents[word] = puttings.valueAt(i);
                }
            }
        }

        private long climb(int word) {
            long chain = 0L;
            int at = word;
            for (int step = 0; step < MOST_WORDS && isWord(at); step++) {
                chain |= 1L << at;
                at = parents[at];
            }
            return chain;
        }
    }

    /** The words that pictures got and lost. */
    private static final class Captions {
        private final Log changes = new Log(MOST_CAPTIONS);
        private final long[] recalled = new long[MOST_PICTURES];

        boolean change(int picture, int word, boolean gets, int minute) {
            int wanted = gets ? 1 : 0;
            int pair = picture * MOST_WORDS + word;
            return changes.latest(pair, minute, 0) != wanted && changes.tell(minute, pair, wanted);
        }

        /** The pictures that had one of these words as at the minute, as bits; with old, lost ones count. */
        long picturesWithOneOf(long words, int minute, boolean old) {
            recall(minute, old);
            long pictures = 0L;
            for (int picture = 0; picture < recalled.length; picture++) {
                if ((recalled[picture] & words) != 0L) {
                    pictures |= 1L << picture;
                }
            }
            return pictures;
        }

        private void recall(int minute, boolean old) {
            Arrays.fill(recalled, 0L);
            int told = changes.toldBy(minute);
            for (int i = 0; i < told; i++) {
                int pair = changes.thingAt(i);
                int picture = pair / MOST_WORDS;
                long word = 1L << (pair % MOST_WORDS);
                if (picture < 0 || picture >= recalled.length) {
                    continue;
                }
                if (changes.valueAt(i) == 1) {
                    recalled[picture] |= word;
                } else if (!old) {
                    recalled[picture] &= ~word;
                }
            }
        }
    }

    /** The pictures, and which of them are like. */
    private static final class Album {
        private final int[] shutters = new int[MOST_PICTURES];
        private final int[] taken = new int[MOST_PICTURES];
        private final int[] persons = new int[MOST_PICTURES];
        private final long[] grids = new long[MOST_PICTURES];
        private final int[] distances = new int[MOST_PICTURES * MOST_PICTURES];
        private final int[] chain = new int[MOST_PICTURES];
        private int count;
        private int likeness = 10;

        boolean isPicture(int n) {
            return n >= 0 && n < count;
        }

        int add(int shutter, int takenAt, long grid, int personsOnIt) {
            if (count >= MOST_PICTURES) {
                return NONE;
            }
            shutters[count] = shutter;
            taken[count] = takenAt;
            grids[count] = grid;
            persons[count] = personsOnIt;
            for (int other = 0; other < count; other++) {
                int sum = difference(grid, grids[other]);
                distances[count * MOST_PICTURES + other] = sum;
                distances[other * MOST_PICTURES + count] = sum;
            }
            count++;
            return count - 1;
        }

        int shutterOf(int picture) {
            return isPicture(picture) ? shutters[picture] : NONE;
        }

        int personsOn(int picture) {
            return isPicture(picture) ? persons[picture] : 0;
        }

        int distance(int a, int b) {
            return isPicture(a) && isPicture(b) ? distances[a * MOST_PICTURES + b] : NONE;
        }

        /** The pictures to which a chain of like ones leads from this one, and itself, as bits. */
        long setOf(int picture) {
            if (!isPicture(picture)) {
                return 0L;
            }
            long members = 1L << picture;
            chain[0] = picture;
            int length = 1;
            for (int i = 0; i < length && i < MOST_PICTURES; i++) {
                for (int other = 0; other < count; other++) {
                    if (!holds(members, other) && distance(chain[i], other) <= likeness
                            && length < MOST_PICTURES) {
                        members |= 1L << other;
                        chain[length] = other;
                        length++;
                    }
                }
            }
            return members;
        }

        /** The member that was taken earliest, the least number among equals. */
        int firstOf(long members) {
            int first = NONE;
            for (int picture = 0; picture < count; picture++) {
                if (holds(members, picture) && (first == NONE || taken[picture] < taken[first])) {
                    first = picture;
                }
            }
            return first;
        }

        private static int difference(long a, long b) {
            int sum = 0;
            for (int i = 0; i < GRID_NUMBERS; i++) {
                int shift = 4 * i;
                sum += Math.abs((int) (a >>> shift & 15L) - (int) (b >>> shift & 15L));
            }
            return sum;
        }
    }

    /** The bytes of the text that comes next. */
    private static final class Tape {
        private final int[] bytes = new int[TAPE_LENGTH];
        private int length;

        void append(int fourBytes) {
            for (int shift = 24; shift >= 0; shift -= 8) {
                if (length < bytes.length) {
                    bytes[length] = fourBytes >>> shift & 255;
                    length++;
                }
            }
        }

        /** The byte at a place, NONE behind the last one. */
        int byteAt(int place) {
            return place >= 0 && place < length && place < bytes.length ? bytes[place] : NONE;
        }
    }

    /** What one text lets; at first, as no clause is told, everything. */
    private static final class Terms {
        private long lands = (1L << ALL_LANDS) - 1L;
        private long uses = (1L << ALL_USES) - 1L;
        private int from = 0;
        private int to = LAST_MINUTE;
        private int mostSize = GREATEST_SIZE;
        private long shunned = 0L;

        boolean allow(int land, int use, int size, int minute, long besideChain) {
            return holds(lands, land) && holds(uses, use) && size <= mostSize
                    && minute >= from && minute <= to && (shunned & besideChain) == 0L;
        }
    }

    /** Reads the tape as a text, and keeps the first fault in it. */
    private static final class Reader {
        private static final int LETTERS = 1;
        private static final int DIGITS = 2;
        private static final int STOP = 3;
        private static final int THE_END = 4;
        private static final int NO_TOKEN = 5;

        private static final int LAND_CLAUSE = 0;
        private static final int USE_CLAUSE = 1;
        private static final int DAYS_CLAUSE = 2;
        private static final int MOST_CLAUSE = 3;
        private static final int NOT_CLAUSE = 4;
        private static final int ALL_CLAUSES = 5;

        private static final int MISPLACED = 1;
        private static final int REPEATED = 2;
        private static final int OUT_OF_RANGE = 3;

        private final Tape tape = new Tape();
        private boolean hasRead;
        private int failure;
        private int place = NONE;

        private Terms terms;
        private int words;
        private int seen;
        private int kind;
        private int start;
        private int behind;
        private int number;

        /** The terms that the tape tells, or null if it has a fault. */
        Terms readTape(int wordsThatAre) {
            hasRead = true;
            failure = 0;
            place = NONE;
            terms = new Terms();
            words = wordsThatAre;
            seen = 0;
            behind = 0;
            step();
            // One clause more than there are kinds can only be a repeated one.
            for (int i = 0; i <= ALL_CLAUSES && failure == 0 && kind != THE_END; i++) {
                readClause();
            }
            return failure == 0 ? terms : null;
        }

        private void readClause() {
            int clause = clauseHere();
            if (clause == NONE) {
                fail(MISPLACED);
            } else if (holds(seen, clause)) {
                fail(REPEATED);
            } else {
                seen |= 1 << clause;
                step();
                readNumbers(clause);
            }
        }

        private void readNumbers(int clause) {
            int least = clause == DAYS_CLAUSE ? 2 : 1;
            int most = clause == DAYS_CLAUSE ? 2 : clause == MOST_CLAUSE ? 1 : TAPE_LENGTH;
            int taken = 0;
            while (taken < most && kind == DIGITS) {
                if (!take(clause, taken)) {
                    fail(OUT_OF_RANGE);
                    return;
                }
                taken++;
                step();
            }
            if (taken < least || kind != STOP) {
                fail(MISPLACED);
                return;
            }
            step();
        }

        /** Takes the number at hand, the index-th of its clause, into the terms; false if it can't be one. */
        private boolean take(int clause, int index) {
            switch (clause) {
                case LAND_CLAUSE:
                    return takeLand(index);
                case USE_CLAUSE:
                    return takeUse(index);
                case DAYS_CLAUSE:
                    return index == 0 ? takeFrom() : takeTo();
                case MOST_CLAUSE:
                    return takeMost();
                default:
                    return takeShunned();
            }
        }

        private boolean takeLand(int index) {
            if (terms == null || !isLand(number)) {
                return false;
            }
            terms.lands = (index == 0 ? 0L : terms.lands) | 1L << number;
            return true;
        }

        private boolean takeUse(int index) {
            if (terms == null || !isUse(number)) {
                return false;
            }
            terms.uses = (index == 0 ? 0L : terms.uses) | 1L << number;
            return true;
        }

        private boolean takeFrom() {
            if (terms == null || !isMinute(number)) {
                return false;
            }
            terms.from = number;
            return true;
        }

        private boolean takeTo() {
            if (terms == null || !isMinute(number) || number < terms.from) {
                return false;
            }
            terms.to = number;
            return true;
        }

        private boolean takeMost() {
            if (terms == null || !isSize(number)) {
                return false;
            }
            terms.mostSize = number;
            return true;
        }

        private boolean takeShunned() {
            if (terms == null || number < 0 || number >= words) {
                return false;
            }
            terms.shunned |= 1L << number;
            return true;
        }

        private void fail(int what) {
            failure = what;
            place = start;
        }

        private int clauseHere() {
            if (spells("land")) {
                return LAND_CLAUSE;
            }
            if (spells("use")) {
                return USE_CLAUSE;
            }
            if (spells("days")) {
                return DAYS_CLAUSE;
            }
            if (spells("most")) {
                return MOST_CLAUSE;
            }
            return spells("not") ? NOT_CLAUSE : NONE;
        }

        private boolean spells(String name) {
            if (kind != LETTERS || behind - start != name.length()) {
                return false;
            }
            for (int i = 0; i < name.length(); i++) {
                if (tape.byteAt(start + i) != name.charAt(i)) {
                    return false;
                }
            }
            return true;
        }

        /** Goes on to the token that comes next, blanks aside. */
        private void step() {
            while (behind < TAPE_LENGTH && tape.byteAt(behind) == ' ') {
                behind++;
            }
            start = behind;
            int first = tape.byteAt(start);
            if (first == NONE) {
                kind = THE_END;
            } else if (isLetter(first)) {
                kind = LETTERS;
                stepOverLetters();
            } else if (isDigit(first)) {
                kind = DIGITS;
                stepOverDigits();
            } else {
                kind = first == ';' ? STOP : NO_TOKEN;
                behind++;
            }
        }

        private void stepOverLetters() {
            while (behind < TAPE_LENGTH && isLetter(tape.byteAt(behind))) {
                behind++;
            }
        }

        private void stepOverDigits() {
            number = 0;
            while (behind < TAPE_LENGTH && isDigit(tape.byteAt(behind))) {
                // Held above all ranges, so that a long number doesn't wrap into one.
                number = Math.min(number * 10 + tape.byteAt(behind) - '0', LAST_MINUTE + 1);
                behind++;
            }
        }

        private static boolean isLetter(int b) {
            return b >= 'a' && b <= 'z' || b >= 'A' && b <= 'Z';
        }

        private static boolean isDigit(int b) {
            return b >= '0' && b <= '9';
        }
    }

    /** The texts of the pictures. */
    private static final class Shelf {
        private final Terms[] texts = new Terms[MOST_PICTURES * MOST_TEXTS];
        private final int[] counts = new int[MOST_PICTURES];

        boolean hasRoom(int picture) {
            return picture >= 0 && picture < counts.length && counts[picture] < MOST_TEXTS;
        }

        /** How many texts the picture has with this one. */
        int add(int picture, Terms terms) {
            if (!hasRoom(picture)) {
                return NONE;
            }
            texts[picture * MOST_TEXTS + counts[picture]] = terms;
            counts[picture]++;
            return counts[picture];
        }

        Terms textAt(int picture, int i) {
            if (picture < 0 || picture >= counts.length || i < 0 || i >= counts[picture]) {
                return null;
            }
            return texts[picture * MOST_TEXTS + i];
        }
    }

    /** One sale, and how its price was split. */
    private static final class Sale {
        private final int picture;
        private final int land;
        private final int use;
        private final int size;
        private final int minute;
        private final int until;
        private int price;
        private int shutter;
        private int shutterGot;
        private int firstShutter;
        private int firstGot;
        private boolean struck;
        private int printing = NONE;

        Sale(int picture, int land, int use, int size, int minute, int until) {
            this.picture = picture;
            this.land = land;
            this.use = use;
            this.size = size;
            this.minute = minute;
            this.until = until;
        }

        int tellOf(int what) {
            switch (what) {
                case 0:
                    return picture;
                case 1:
                    return land;
                case 2:
                    return use;
                case 3:
                    return size;
                case 4:
                    return minute;
                case 5:
                    return until;
                case 6:
                    return price;
                case 7:
                    return shutterGot;
                case 8:
                    return firstGot;
                case 9:
                    return struck ? 1 : 0;
                case 10:
                    return printing;
                default:
                    return NONE;
            }
        }
    }

    /** The sales, and the printings that are led to them or claimed. */
    private static final class Ledger {
        private final Sale[] sales = new Sale[MOST_SALES];
        private final int[] printedSales = new int[MOST_PRINTINGS];
        private int count;
        private int printings;
        private int claims;

        boolean hasRoom() {
            return count < MOST_SALES;
        }

        int add(Sale made) {
            if (!hasRoom()) {
                return NONE;
            }
            sales[count] = made;
            count++;
            return count - 1;
        }

        Sale saleAt(int n) {
            return n >= 0 && n < count ? sales[n] : null;
        }

        /** The first sale that shuts the land for one of these pictures at the minute. */
        int firstShutting(long pictures, int land, int minute) {
            for (int i = 0; i < count; i++) {
                Sale sale = saleAt(i);
                if (sale != null && !sale.struck && sale.until != NONE && sale.until >= minute
                        && sale.land == land && holds(pictures, sale.picture)) {
                    return i;
                }
            }
            return NONE;
        }

        /** The first sale to which a printing of one of these pictures can be led. */
        int firstFor(long pictures, int land, int use, int size) {
            for (int i = 0; i < count; i++) {
                Sale sale = saleAt(i);
                if (sale != null && !sale.struck && sale.printing == NONE && sale.land == land
                        && sale.use == use && sale.size >= size && holds(pictures, sale.picture)) {
                    return i;
                }
            }
            return NONE;
        }

        /** Notes a printing as led to a sale, or as a claim for NONE. */
        int lead(int number) {
            if (printings >= MOST_PRINTINGS) {
                return NONE;
            }
            Sale sale = saleAt(number);
            if (sale == null) {
                printedSales[printings] = NONE;
                claims++;
            } else {
                printedSales[printings] = number;
                sale.printing = printings;
            }
            printings++;
            return printings - 1;
        }

        int ledTo(int printing) {
            return printing >= 0 && printing < printings ? printedSales[printing] : NONE;
        }

        long gainOf(int person) {
            long sum = 0L;
            for (int i = 0; i < count; i++) {
                Sale sale = saleAt(i);
                if (sale != null && !sale.struck) {
                    sum += sale.shutter == person ? sale.shutterGot : 0;
                    sum += sale.firstShutter == person ? sale.firstGot : 0;
                }
            }
            return sum;
        }

        long gainOfAgency() {
            long sum = 0L;
            for (int i = 0; i < count; i++) {
                Sale sale = saleAt(i);
                if (sale != null && !sale.struck) {
                    sum += sale.price - sale.shutterGot - sale.firstGot;
                }
            }
            return sum;
        }
    }
}
