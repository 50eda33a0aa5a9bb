/**
 * A works whose three THINGS come in by MONTHS and whose two WARES go out: what the WARES are
 * made of, worked back from the book. The promises stand in DOC.md; the words in capitals are its.
 */
public final class WorkedBack {
    public static final int NONE = -6, UNKNOWN = -1, OUTSIDE = -2, STATE = -3, FULL = -4, NO = -5;
    public static final int GONE = -1000000;

    private static final int THINGS = 3;
    private static final int WARES = 2;
    private static final int MONTHS = 8;
    private static final int MIXTURES = 15625;
    private static final int SIGNS = 50;
    private static final int IMAGES = 2;

    /** A PART is how one WARE alone is made: its three digits to five. */
    private static final int PARTS = 125;
    /** A PAIR is how much of one THING is in both WARES: 5 times that of p, and that of q. */
    private static final int PAIRS = 25;

    /** What change() tells of a MONTH, and where in it each kind begins. */
    private static final int CELLS = 9;
    private static final int GIVE = 3;
    private static final int OUT = 4;
    private static final int PRICE = 6;
    private static final int[] CELL_MOST = {99, 99, 99, 5, 20, 20, 99, 99, 99};

    /** What stock() tells of a THING. */
    private static final int STOCKS = 4;
    private static final int LEAST = 0;
    private static final int MOST = 1;
    private static final int HOLDS = 2;
    private static final int LOST = 3;
    private static final int[] STOCK_MOST = {99, 99, 199, 5};

    private static final int GIVE_MOST = 99;
    private static final int DOUBT_MOST = 2;
    private static final int HIDE_MOST = 9;
    private static final int PURSE_MOST = 999;
    /** More than any STOCK and all NEEDS can ever take: stands for an IN without an upper end. */
    private static final int ANY = 100000;

    private final Book book = new Book();
    private final Book[] images = {new Book(), new Book()};
    private final boolean[] imaged = new boolean[IMAGES];
    private final Text text = new Text();
    private final Works works = new Works(book);
    private final Search search = new Search(works);
    private final Break broken = new Break(works);
    private final Weighing weighing = new Weighing(works);

    public WorkedBack() {
    }

    // ---- 1 the book

    public int month(int a, int b, int c, int give, int p, int q) {
        boolean ins = within(a, CELL_MOST[0]) && within(b, CELL_MOST[1]) && within(c, CELL_MOST[2]);
        boolean outs = within(p, CELL_MOST[OUT]) && within(q, CELL_MOST[OUT + 1]);
        if (!ins || !outs || !within(give, CELL_MOST[GIVE])) {
            return OUTSIDE;
        }
        if (book.months >= MONTHS) {
            return FULL;
        }
        int number = book.addMonth();
        book.setCell(number, 0, a);
        book.setCell(number, 1, b);
        book.setCell(number, 2, c);
        book.setCell(number, GIVE, give);
        book.setCell(number, OUT, p);
        book.setCell(number, OUT + 1, q);
        return number;
    }

    public int change(int month, int what, int v) {
        if (!isMonth(month)) {
            return UNKNOWN;
        }
        if (what < 0 || what >= CELLS || !within(v, CELL_MOST[what])) {
            return OUTSIDE;
        }
        int was = book.cell(month, what);
        book.setCell(month, what, v);
        return was;
    }

    public int about(int month, int what) {
        if (!isMonth(month)) {
            return UNKNOWN;
        }
        return within(what, CELLS - 1) ? book.cell(month, what) : OUTSIDE;
    }

    public int tear() {
        if (book.months == 0) {
            return NO;
        }
        return book.dropMonth();
    }

    public int stock(int thing, int what, int v) {
        if (!isThing(thing)) {
            return UNKNOWN;
        }
        if (what < 0 || what >= STOCKS || !within(v, STOCK_MOST[what])) {
            return OUTSIDE;
        }
        if (what == LEAST && v > book.stockCell(thing, MOST)) {
            return OUTSIDE;
        }
        if (what == MOST && v < book.stockCell(thing, LEAST)) {
            return OUTSIDE;
        }
        int was = book.stockCell(thing, what);
        book.setStockCell(thing, what, v);
        return was;
    }

    public int stand(int thing, int other) {
        boolean none = thing == -1 && other == -1;
        boolean some = isThing(thing) && isThing(other) && thing != other;
        if (!none && !some) {
            return UNKNOWN;
        }
        int was = book.standing();
        book.setStanding(thing, other);
        return was;
    }

    // ---- 2 rules

    public int say(int sign) {
        if (sign < 33 || sign > 126) {
            return OUTSIDE;
        }
        return text.add(sign) ? text.count : FULL;
    }

    public int wipe() {
        return text.empty();
    }

    public int fault() {
        return text.firstFault();
    }

    public int rule() {
        if (text.firstFault() != NONE) {
            return NO;
        }
        int boths = text.collect(book.kept);
        book.setBoths(boths);
        text.empty();
        return boths;
    }

    public int free() {
        int boths = book.boths;
        book.kept.addAll();
        book.setBoths(0);
        return boths;
    }

    public int fits(int mixture, int how) {
        if (!isMixture(mixture)) {
            return UNKNOWN;
        }
        if (!within(how, 2)) {
            return OUTSIDE;
        }
        boolean keeps = how == 1 || book.kept.has(mixture);
        boolean agrees = how == 0 || works.judged(mixture) < 0;
        return keeps && agrees ? 1 : 0;
    }

    // ---- 3 what agrees

    public int needs(int mixture, int month, int thing) {
        if (!isMixture(mixture) || !isMonth(month) || !isThing(thing)) {
            return UNKNOWN;
        }
        return book.neededBy(mixture, month, thing);
    }

    public int judge(int mixture, int what) {
        if (!isMixture(mixture)) {
            return UNKNOWN;
        }
        if (!within(what, 1)) {
            return OUTSIDE;
        }
        int judged = works.judged(mixture);
        if (judged < 0) {
            return NONE;
        }
        return what == 0 ? judged / THINGS : judged % THINGS;
    }

    public int lies(int mixture, int thing, int month, int end) {
        if (!isMixture(mixture) || !isThing(thing) || !isMonth(month)) {
            return UNKNOWN;
        }
        if (!within(end, 1)) {
            return OUTSIDE;
        }
        if (works.goesTill(mixture, thing, month) <= month) {
            return NO;
        }
        return end == 0 ? works.flow.low : works.flow.high;
    }

    public int all(int i) {
        works.update();
        if (i == -1) {
            return works.fitting.count();
        }
        int mixture = works.fitting.nth(i);
        return mixture < 0 ? NONE : mixture;
    }

    public int ends(int ware, int thing, int end) {
        if (!isWare(ware) || !isThing(thing)) {
            return UNKNOWN;
        }
        if (!within(end, 1)) {
            return OUTSIDE;
        }
        works.update();
        int amounts = works.amounts(ware, thing);
        if (amounts == 0) {
            return NO;
        }
        return end == 0 ? lowestPlace(amounts) : highestPlace(amounts);
    }

    public int must(int what) {
        if (!within(what, 1)) {
            return OUTSIDE;
        }
        works.update();
        if (works.first() < 0) {
            return NO;
        }
        return what == 0 ? works.inEvery() : works.inNone();
    }

    public int plain(int what) {
        if (!within(what, 1)) {
            return OUTSIDE;
        }
        works.update();
        int mixture = works.plainest();
        if (mixture < 0) {
            return NO;
        }
        return what == 0 ? mixture : thingsInPart(mixture / PARTS) + thingsInPart(mixture % PARTS);
    }

    public int near(int what) {
        if (!within(what, 1)) {
            return OUTSIDE;
        }
        works.update();
        search.seekNear();
        if (search.nearFirst < 0) {
            return NO;
        }
        return what == 0 ? search.nearBy : search.nearFirst;
    }

    public int doubt(int what) {
        if (!within(what, 1)) {
            return OUTSIDE;
        }
        works.update();
        search.seekDoubt();
        if (search.doubtFirst < 0) {
            return NO;
        }
        return what == 0 ? search.doubtBits : search.doubtFirst;
    }

    // ---- 4 changes, costs, what to do

    public int changed(int what) {
        if (!within(what, 3)) {
            return OUTSIDE;
        }
        works.update();
        if (works.first() >= 0) {
            return STATE;
        }
        broken.seek();
        if (broken.month < 0) {
            return NO;
        }
        switch (what) {
            case 0:
                return broken.month;
            case 1:
                return broken.thing;
            case 2:
                return broken.before;
            default:
                return broken.behind;
        }
    }

    public int cost(int mixture, int ware, int month) {
        if (!isMixture(mixture) || !isWare(ware) || !isMonth(month)) {
            return UNKNOWN;
        }
        return book.priceOf(ware == 0 ? mixture / PARTS : mixture % PARTS, month);
    }

    public int costs(int ware, int month, int end) {
        if (!isWare(ware) || !isMonth(month)) {
            return UNKNOWN;
        }
        if (!within(end, 1)) {
            return OUTSIDE;
        }
        works.update();
        if (works.first() < 0) {
            return NO;
        }
        return works.endOfPrices(ware, month, end);
    }

    public int buy(int thing, int p, int q, int end) {
        if (!isThing(thing)) {
            return UNKNOWN;
        }
        if (!within(p, CELL_MOST[OUT]) || !within(q, CELL_MOST[OUT + 1]) || !within(end, 1)) {
            return OUTSIDE;
        }
        works.update();
        int pairs = works.pairs(thing);
        if (pairs == 0) {
            return NO;
        }
        return endOfNeeds(pairs, p, q, end);
    }

    public int settle(int what) {
        if (!within(what, 2)) {
            return OUTSIDE;
        }
        if (book.months == 0) {
            return STATE;
        }
        works.update();
        if (works.first() < 0) {
            return NO;
        }
        int place = weighing.settling();
        if (what == 2) {
            return weighing.mostLeft(place);
        }
        return what == 0 ? place / THINGS : place % THINGS;
    }

    public int hide(int purse, int what) {
        if (!within(purse, PURSE_MOST) || !within(what, 3)) {
            return OUTSIDE;
        }
        if (book.months == 0) {
            return STATE;
        }
        works.update();
        int place = weighing.hiding(purse);
        if (place < 0) {
            return NO;
        }
        switch (what) {
            case 0:
                return place / HIDE_MOST / THINGS;
            case 1:
                return place / HIDE_MOST % THINGS;
            case 2:
                return place % HIDE_MOST + 1;
            default:
                return weighing.hidden(place);
        }
    }

    public int image(int n) {
        if (n < 0 || n >= IMAGES) {
            return OUTSIDE;
        }
        images[n].copy(book);
        imaged[n] = true;
        return 1;
    }

    public int restore(int n) {
        if (n < 0 || n >= IMAGES) {
            return OUTSIDE;
        }
        if (!imaged[n]) {
            return STATE;
        }
        book.copy(images[n]);
        return 1;
    }

    public int told(int what) {
        if (what >= 10 && what < 10 + THINGS * STOCKS) {
            return book.stockCell((what - 10) / STOCKS, (what - 10) % STOCKS);
        }
        switch (what) {
            case 0:
                return book.months;
            case 1:
                return text.count;
            case 2:
                return book.boths;
            case 3:
                return book.standing();
            default:
                return OUTSIDE;
        }
    }

    // ---- what the calls look at first

    private static boolean within(int v, int most) {
        return v >= 0 && v <= most;
    }

    private static boolean isThing(int thing) {
        return thing >= 0 && thing < THINGS;
    }

    private static boolean isWare(int ware) {
        return ware >= 0 && ware < WARES;
    }

    private static boolean isMixture(int mixture) {
        return mixture >= 0 && mixture < MIXTURES;
    }

    private boolean isMonth(int month) {
        return month >= 0 && month < book.months;
    }

    // ---- digits and bits

    /** How much of a THING is in a WARE that is made so. */
    private static int amountIn(int part, int thing) {
        return thing == 0 ? part / 25 % 5 : thing == 1 ? part / 5 % 5 : part % 5;
    }

    private static int pairOf(int mixture, int thing) {
        return 5 * amountIn(mixture / PARTS, thing) + amountIn(mixture % PARTS, thing);
    }

    /** The MIXTURE with another PAIR of one THING. */
    private static int withPair(int mixture, int thing, int pair) {
        int step = thing == 0 ? 25 : thing == 1 ? 5 : 1;
        int was = pairOf(mixture, thing);
        return mixture + (pair / 5 - was / 5) * step * PARTS + (pair % 5 - was % 5) * step;
    }

    private static int thingsInPart(int part) {
        int things = 0;
        for (int thing = 0; thing < THINGS; thing++) {
            things += amountIn(part, thing) > 0 ? 1 : 0;
        }
        return things;
    }

    private static int lowestPlace(long bits) {
        return Long.bitCount((bits & -bits) - 1);
    }

    private static int highestPlace(int bits) {
        int place = 0;
        for (int i = 0; i < 31; i++) {
            if ((bits >> i & 1) != 0) {
                place = i;
            }
        }
        return place;
    }

    /** The least or the most NEEDED for two OUTS over PAIRS, which are told as bits. */
    private static int endOfNeeds(int pairs, int p, int q, int end) {
        int found = -1;
        for (int pair = 0; pair < PAIRS; pair++) {
            if ((pairs >> pair & 1) != 0) {
                int need = p * (pair / 5) + q * (pair % 5);
                found = found < 0 ? need : end == 0 ? Math.min(found, need) : Math.max(found, need);
            }
        }
        return found;
    }

    /** Both ends of a span in one number, so that a chart has one row; an empty one is below 0. */
    private static int spanOf(int low, int high) {
        return low <= high ? low + 256 * high : -1;
    }

    private static int lowOf(int span) {
        return span & 255;
    }

    private static int highOf(int span) {
        return span >> 8;
    }

    /** A set of MIXTURES: two words for each PART of p, one bit for each PART of q. */
    private static final class Mixtures {
        private static final int WORDS = 2 * PARTS;
        private static final long LOW_ALL = -1L;
        private static final long HIGH_ALL = (1L << PARTS - 64) - 1;

        private final long[] words = new long[WORDS];

        long low(int part) {
            return part >= 0 && part < PARTS ? words[2 * part] : 0;
        }

        long high(int part) {
            return part >= 0 && part < PARTS ? words[2 * part + 1] : 0;
        }

        void addAll() {
            for (int part = 0; part < PARTS; part++) {
                words[2 * part] = LOW_ALL;
                words[2 * part + 1] = HIGH_ALL;
            }
        }

        void removeAll() {
            for (int i = 0; i < WORDS; i++) {
                words[i] = 0;
            }
        }

        void copy(Mixtures other) {
            System.arraycopy(other.words, 0, words, 0, WORDS);
        }

        void join(Mixtures other) {
            for (int i = 0; i < WORDS; i++) {
                words[i] |= other.words[i];
            }
        }

        /** With this PART of p only those stay whose PART of q is in the two words. */
        void narrow(int part, long low, long high) {
            if (part >= 0 && part < PARTS) {
                words[2 * part] &= low;
                words[2 * part + 1] &= high;
            }
        }

        boolean has(int mixture) {
            if (!isMixture(mixture)) {
                return false;
            }
            return (words[wordOf(mixture)] >>> bitOf(mixture) & 1) != 0;
        }

        int count() {
            int count = 0;
            for (int i = 0; i < WORDS; i++) {
                count += Long.bitCount(words[i]);
            }
            return count;
        }

        /** The first one from a number on; -1: there is none. */
        int next(int from) {
            if (!isMixture(from)) {
                return -1;
            }
            int word = wordOf(from);
            int bit = bitOf(from);
            long rest = words[word] >>> bit << bit;
            if (rest != 0) {
                return numberOf(word, rest);
            }
            for (int i = word + 1; i < WORDS; i++) {
                if (words[i] != 0) {
                    return numberOf(i, words[i]);
                }
            }
            return -1;
        }

        /** The i-th by number; -1: there is none. */
        int nth(int i) {
            if (i < 0) {
                return -1;
            }
            int left = i;
            for (int word = 0; word < WORDS; word++) {
                int count = Long.bitCount(words[word]);
                if (left < count) {
                    return numberOf(word, withoutLowest(words[word], left));
                }
                left -= count;
            }
            return -1;
        }

        private static long withoutLowest(long bits, int many) {
            long rest = bits;
            for (int i = 0; i < many; i++) {
                rest &= rest - 1;
            }
            return rest;
        }

        private static int wordOf(int mixture) {
            return mixture / PARTS * 2 + mixture % PARTS / 64;
        }

        private static int bitOf(int mixture) {
            return mixture % PARTS % 64;
        }

        private static int numberOf(int word, long bits) {
            return word / 2 * PARTS + word % 2 * 64 + lowestPlace(bits);
        }
    }

    /** Sets of PARTS, two words each: those with so much of a THING, those with so many THINGS. */
    private static final class Parts {
        private static final int AMOUNTS = 5;

        private final long[] low = new long[THINGS * AMOUNTS];
        private final long[] high = new long[THINGS * AMOUNTS];
        private final long[] fewLow = new long[THINGS + 1];
        private final long[] fewHigh = new long[THINGS + 1];

        Parts() {
            for (int part = 0; part < PARTS; part++) {
                long lowBit = part < 64 ? 1L << part : 0;
                long highBit = part < 64 ? 0 : 1L << part - 64;
                for (int thing = 0; thing < THINGS; thing++) {
                    int at = thing * AMOUNTS + amountIn(part, thing);
                    low[at] |= lowBit;
                    high[at] |= highBit;
                }
                int things = thingsInPart(part);
                fewLow[things] |= lowBit;
                fewHigh[things] |= highBit;
            }
        }

        long lowWith(int thing, int amount) {
            int at = thing * AMOUNTS + amount;
            return at >= 0 && at < low.length ? low[at] : 0;
        }

        long highWith(int thing, int amount) {
            int at = thing * AMOUNTS + amount;
            return at >= 0 && at < high.length ? high[at] : 0;
        }

        long lowOfThings(int many) {
            return within(many, THINGS) ? fewLow[many] : 0;
        }

        long highOfThings(int many) {
            return within(many, THINGS) ? fewHigh[many] : 0;
        }
    }

    /** The MONTHS, the STOCKS, what stands in and the RULE: all that an IMAGE keeps. */
    private static final class Book {
        private int months;
        private final int[] cells = new int[MONTHS * CELLS];
        private final int[] stocks = new int[THINGS * STOCKS];
        private int stander = -1;
        private int stoodFor = -1;
        private int boths;
        private final Mixtures kept = new Mixtures();
        /** Counts changes, so that what was worked out from an older book is known. */
        private int turn = 1;

        Book() {
            for (int thing = 0; thing < THINGS; thing++) {
                stocks[thing * STOCKS + HOLDS] = STOCK_MOST[HOLDS];
            }
            kept.addAll();
        }

        void copy(Book other) {
            months = other.months;
            System.arraycopy(other.cells, 0, cells, 0, cells.length);
            System.arraycopy(other.stocks, 0, stocks, 0, stocks.length);
            stander = other.stander;
            stoodFor = other.stoodFor;
            boths = other.boths;
            kept.copy(other.kept);
            turn++;
        }

        int addMonth() {
            if (months >= MONTHS) {
                return -1;
            }
            for (int what = 0; what < CELLS; what++) {
                cells[months * CELLS + what] = 0;
            }
            turn++;
            return months++;
        }

        int dropMonth() {
            turn++;
            months = Math.max(0, months - 1);
            return months;
        }

        int cell(int month, int what) {
            int at = month * CELLS + what;
            return at >= 0 && at < cells.length ? cells[at] : 0;
        }

        void setCell(int month, int what, int v) {
            int at = month * CELLS + what;
            if (at >= 0 && at < cells.length) {
                cells[at] = v;
                turn++;
            }
        }

        int stockCell(int thing, int what) {
            int at = thing * STOCKS + what;
            return at >= 0 && at < stocks.length ? stocks[at] : 0;
        }

        void setStockCell(int thing, int what, int v) {
            int at = thing * STOCKS + what;
            if (at >= 0 && at < stocks.length) {
                stocks[at] = v;
                turn++;
            }
        }

        int standing() {
            return stander < 0 ? NONE : 10 * stander + stoodFor;
        }

        void setStanding(int thing, int other) {
            stander = thing;
            stoodFor = other;
            turn++;
        }

        void setBoths(int many) {
            boths = many;
            turn++;
        }

        boolean standsIn(int month) {
            return stander >= 0 && cell(month, PRICE + stander) < cell(month, PRICE + stoodFor);
        }

        /** The THING for which this one stands in in some MONTH; -1: none. */
        int guestOf(int thing) {
            if (thing != stander) {
                return -1;
            }
            for (int month = 0; month < months; month++) {
                if (standsIn(month)) {
                    return stoodFor;
                }
            }
            return -1;
        }

        /** What is NEEDED of a THING by its own PAIR. */
        int ownNeed(int month, int thing, int pair) {
            return thing == stoodFor && standsIn(month) ? 0 : needOfPair(month, pair);
        }

        /** What is NEEDED of it, too, by the PAIR of the one for which it stands in. */
        int guestNeed(int month, int thing, int pair) {
            return thing == stander && standsIn(month) ? needOfPair(month, pair) : 0;
        }

        private int needOfPair(int month, int pair) {
            return cell(month, OUT) * (pair / 5) + cell(month, OUT + 1) * (pair % 5);
        }

        int neededBy(int mixture, int month, int thing) {
            return ownNeed(month, thing, pairOf(mixture, thing))
                    + guestNeed(month, thing, pairOf(mixture, stoodFor));
        }

        int priceOf(int part, int month) {
            int price = 0;
            for (int thing = 0; thing < THINGS; thing++) {
                price += cell(month, PRICE + thing) * amountIn(part, thing);
            }
            return price;
        }
    }

    /** The signs that were said: where they go wrong, and which MIXTURES keep what they tell. */
    private static final class Text {
        /** What must or may come next; below 0: the sign before can not stand there. */
        private static final int WARE_NEXT = 0;
        private static final int THING_NEXT = 1;
        private static final int BEHIND_TERM = 2;
        private static final int DIGIT_NEXT = 3;
        private static final int ONE_DIGIT = 4;
        private static final int TWO_DIGITS = 5;
        /** The most that a sum can be: sixteen TERMS have room in a text, each 4 at most. */
        private static final int SUM_MOST = 64;

        private final int[] signs = new int[SIGNS];
        private int count;
        private final Mixtures both = new Mixtures();
        private final int[] timesInP = new int[THINGS];
        private final int[] timesInQ = new int[THINGS];
        /** Of all PARTS of q those whose sum is below 0, 1, 2 and so on. */
        private final long[] belowLow = new long[SUM_MOST + 2];
        private final long[] belowHigh = new long[SUM_MOST + 2];
        private int ware;
        private int relation;
        private int number;

        boolean add(int sign) {
            if (count >= SIGNS) {
                return false;
            }
            signs[count] = sign;
            count++;
            return true;
        }

        int empty() {
            int were = count;
            count = 0;
            return were;
        }

        int firstFault() {
            int state = WARE_NEXT;
            for (int i = 0; i < count && i < SIGNS; i++) {
                state = behind(state, signs[i]);
                if (state < 0) {
                    return i;
                }
            }
            return state == ONE_DIGIT || state == TWO_DIGITS ? NONE : count;
        }

        private static int behind(int state, int sign) {
            switch (state) {
                case WARE_NEXT:
                    return sign == 'p' || sign == 'q' ? THING_NEXT : -1;
                case THING_NEXT:
                    return sign >= 'a' && sign <= 'c' ? BEHIND_TERM : -1;
                case BEHIND_TERM:
                    return sign == '+' ? WARE_NEXT : isRelation(sign) ? DIGIT_NEXT : -1;
                case DIGIT_NEXT:
                    return isDigit(sign) ? ONE_DIGIT : -1;
                case ONE_DIGIT:
                    return isDigit(sign) ? TWO_DIGITS : isLink(sign) ? WARE_NEXT : -1;
                default:
                    return isLink(sign) ? WARE_NEXT : -1;
            }
        }

        private static boolean isDigit(int sign) {
            return sign >= '0' && sign <= '9';
        }

        private static boolean isRelation(int sign) {
            return sign == '<' || sign == '>' || sign == '=';
        }

        private static boolean isLink(int sign) {
            return sign == '&' || sign == '|';
        }

        /** Puts those that keep the text, which has no FAULT, into a set; how many BOTHS. */
        int collect(Mixtures kept) {
            int boths = 1;
            kept.removeAll();
            both.addAll();
            beginTest();
            for (int i = 0; i < count && i < SIGNS; i++) {
                if (isLink(signs[i])) {
                    endTest();
                } else {
                    readOn(signs[i]);
                }
                if (signs[i] == '|') {
                    boths++;
                    kept.join(both);
                    both.addAll();
                }
            }
            endTest();
            kept.join(both);
            return boths;
        }

        private void beginTest() {
            for (int thing = 0; thing < THINGS; thing++) {
                timesInP[thing] = 0;
                timesInQ[thing] = 0;
            }
            number = 0;
        }

        private void readOn(int sign) {
            if (sign == 'p' || sign == 'q') {
                ware = sign;
            } else if (isDigit(sign)) {
                number = number * 10 + sign - '0';
            } else if (isRelation(sign)) {
                relation = sign;
            } else if (sign >= 'a' && sign <= 'c') {
                timesInP[sign - 'a'] += ware == 'p' ? 1 : 0;
                timesInQ[sign - 'a'] += ware == 'q' ? 1 : 0;
            }
        }

        private void endTest() {
            setBelow();
            for (int part = 0; part < PARTS; part++) {
                narrowBoth(part, number - sumOf(timesInP, part));
            }
            beginTest();
        }

        private void setBelow() {
            for (int i = 0; i < SUM_MOST + 2; i++) {
                belowLow[i] = 0;
                belowHigh[i] = 0;
            }
            for (int part = 0; part < PARTS; part++) {
                int at = 1 + Math.min(sumOf(timesInQ, part), SUM_MOST);
                if (part < 64) {
                    belowLow[at] |= 1L << part;
                } else {
                    belowHigh[at] |= 1L << part - 64;
                }
            }
            for (int i = 1; i < SUM_MOST + 2; i++) {
                belowLow[i] |= belowLow[i - 1];
                belowHigh[i] |= belowHigh[i - 1];
            }
        }

        private static int sumOf(int[] times, int part) {
            return times[0] * (part / 25) + times[1] * (part / 5 % 5) + times[2] * (part % 5);
        }

        /** What is left for q's sum is the number less p's sum. */
        private void narrowBoth(int part, int left) {
            int below = Math.max(0, Math.min(SUM_MOST + 1, left));
            int till = Math.max(0, Math.min(SUM_MOST + 1, left + 1));
            if (relation == '<') {
                both.narrow(part, belowLow[below], belowHigh[below]);
            } else if (relation == '>') {
                both.narrow(part, ~belowLow[till], ~belowHigh[till]);
            } else {
                both.narrow(part, belowLow[till] & ~belowLow[below], belowHigh[till] & ~belowHigh[below]);
            }
        }
    }

    /** Between what the STOCK of one THING lies as MONTHS go by, forward or backward. */
    private static final class Flow {
        private int months;
        private final int[] leastIn = new int[MONTHS];
        private final int[] mostIn = new int[MONTHS];
        private int firstLeast;
        private int firstMost;
        private int holds;
        private int lost;
        private int low;
        private int high;

        /** With all GIVES more by a number, and any IN in the doubted MONTHS (bits). */
        void set(Book book, int thing, int more, int doubted) {
            months = Math.min(MONTHS, book.months);
            for (int month = 0; month < months; month++) {
                boolean any = (doubted >> month & 1) != 0;
                int in = book.cell(month, thing);
                int give = book.cell(month, GIVE) + more;
                leastIn[month] = any ? 0 : Math.max(0, in - give);
                mostIn[month] = any ? ANY : in + give;
            }
            firstLeast = book.stockCell(thing, LEAST);
            firstMost = book.stockCell(thing, MOST);
            holds = book.stockCell(thing, HOLDS);
            lost = book.stockCell(thing, LOST);
        }

        void begin() {
            low = firstLeast;
            high = firstMost;
        }

        /** Whether there is such a STOCK behind the MONTH, too. */
        boolean go(int month, int need) {
            if (month < 0 || month >= months) {
                return false;
            }
            int least = low + leastIn[month] - need - lost;
            int most = high + mostIn[month] - need;
            low = least < 0 ? 0 : least;
            high = most > holds ? holds : most;
            return low <= high;
        }

        void beginBehind() {
            low = 0;
            high = holds;
        }

        /** The STOCKS ahead of a MONTH (which is not the first) from which it can go on. */
        boolean goBack(int month, int need) {
            if (month < 0 || month >= months) {
                return false;
            }
            int least = low - mostIn[month] + need;
            int most = high - leastIn[month] + need + lost;
            low = least < 0 ? 0 : least;
            high = most > holds ? holds : most;
            return low <= high;
        }
    }

    /** Which MIXTURES pass by the PAIR of one THING, or by the PAIRS of two. */
    private static final class Mesh {
        private final Parts parts;
        private final long[] low = new long[PAIRS];
        private final long[] high = new long[PAIRS];
        private int thing;
        private int other = -1;

        Mesh(Parts parts) {
            this.parts = parts;
        }

        /** Nothing passes at first; there need not be another THING (-1). */
        void close(int one, int another) {
            thing = one;
            other = another;
            for (int row = 0; row < PAIRS; row++) {
                low[row] = 0;
                high[row] = 0;
            }
        }

        void pass(int pair, int otherPair) {
            if (!within(pair, PAIRS - 1) || !within(otherPair, PAIRS - 1)) {
                return;
            }
            long lowOnes = parts.lowWith(thing, pair % 5);
            long highOnes = parts.highWith(thing, pair % 5);
            if (other >= 0) {
                lowOnes &= parts.lowWith(other, otherPair % 5);
                highOnes &= parts.highWith(other, otherPair % 5);
            }
            int row = pair / 5 + otherPair / 5 * 5;
            low[row] |= lowOnes;
            high[row] |= highOnes;
        }

        void narrow(Mixtures mixtures) {
            for (int part = 0; part < PARTS; part++) {
                int row = amountIn(part, thing) + (other < 0 ? 0 : 5 * amountIn(part, other));
                mixtures.narrow(part, low[row], high[row]);
            }
        }
    }

    /**
     * The STOCK of one THING by each KEY: its PAIR, and 25 times the PAIR of the THING for which it
     * stands in. All that can happen to it hangs on the KEY alone.
     */
    private static final class Course {
        private static final int AHEADS = MONTHS + 1;

        private final int room;
        private final int[] need;
        private final int[] ownNeeds = new int[PAIRS];
        private final int[] guestNeeds = new int[PAIRS];
        /** Where the STOCK can be ahead of a MONTH by the MONTHS till then, and by those from then on. */
        private final int[] ahead;
        private final int[] onward;
        private final Mesh mesh;
        private int thing;
        private int guest = -1;
        private int keys;

        Course(Parts parts, int room) {
            this.room = room;
            need = new int[room * MONTHS];
            ahead = new int[room * AHEADS];
            onward = new int[room * AHEADS];
            mesh = new Mesh(parts);
        }

        void set(Book book, int one, int another) {
            thing = one;
            guest = another;
            keys = Math.min(room, guest < 0 ? PAIRS : PAIRS * PAIRS);
            for (int month = 0; month < book.months && month < MONTHS; month++) {
                setNeeds(book, month);
            }
        }

        private void setNeeds(Book book, int month) {
            for (int pair = 0; pair < PAIRS; pair++) {
                ownNeeds[pair] = book.ownNeed(month, thing, pair);
                guestNeeds[pair] = book.guestNeed(month, thing, pair);
            }
            for (int guestPair = 0; guestPair * PAIRS < keys; guestPair++) {
                for (int pair = 0; pair < PAIRS; pair++) {
                    int key = guestPair * PAIRS + pair;
                    need[key * MONTHS + month] = ownNeeds[pair] + guestNeeds[guestPair];
                }
            }
        }

        /** The mesh lets through what AGREES with the THING. */
        void strain(Flow flow) {
            mesh.close(thing, guest);
            for (int key = 0; key < keys; key++) {
                if (goesThrough(flow, key)) {
                    mesh.pass(key % PAIRS, key / PAIRS);
                }
            }
        }

        private boolean goesThrough(Flow flow, int key) {
            flow.begin();
            for (int month = 0; month < flow.months && month < MONTHS; month++) {
                if (!flow.go(month, need[key * MONTHS + month])) {
                    return false;
                }
            }
            return true;
        }

        void chart(Flow flow) {
            for (int key = 0; key < keys; key++) {
                chartAhead(flow, key);
                chartOnward(flow, key);
            }
        }

        private void chartAhead(Flow flow, int key) {
            flow.begin();
            boolean goes = true;
            ahead[key * AHEADS] = spanOf(flow.low, flow.high);
            for (int month = 0; month < flow.months && month < MONTHS; month++) {
                goes = goes && flow.go(month, need[key * MONTHS + month]);
                ahead[key * AHEADS + month + 1] = goes ? spanOf(flow.low, flow.high) : -1;
            }
        }

        private void chartOnward(Flow flow, int key) {
            flow.beginBehind();
            boolean goes = true;
            onward[key * AHEADS + flow.months] = spanOf(flow.low, flow.high);
            for (int month = flow.months - 1; month > 0; month--) {
                goes = goes && flow.goBack(month, need[key * MONTHS + month]);
                onward[key * AHEADS + month] = goes ? spanOf(flow.low, flow.high) : -1;
            }
        }

        int needAt(int key, int month) {
            return isPlace(key, month) ? need[key * MONTHS + month] : 0;
        }

        int aheadOf(int key, int month) {
            return isPlace(key, month) ? ahead[key * AHEADS + month] : -1;
        }

        /** There is none ahead of MONTH 0: nobody asks for it. */
        int onwardFrom(int key, int month) {
            return isPlace(key, month - 1) ? onward[key * AHEADS + month] : -1;
        }

        private boolean isPlace(int key, int month) {
            return key >= 0 && key < keys && month >= 0 && month < MONTHS;
        }

        /** By which PAIRS it goes on from a MONTH with one of these STOCKS; their KEYS are steps apart. */
        int onwardPairs(int stocks, int month, int firstKey, int step, int among) {
            int bits = 0;
            for (int pair = 0; pair < PAIRS && stocks >= 0; pair++) {
                int from = (among >> pair & 1) != 0 ? onwardFrom(firstKey + step * pair, month) : -1;
                if (from >= 0 && lowOf(stocks) <= highOf(from) && lowOf(from) <= highOf(stocks)) {
                    bits |= 1 << pair;
                }
            }
            return bits;
        }
    }

    /**
     * What AGREES and what FITS by the book. The face calls update() ahead of anything that hangs on
     * all that FIT, so that the book is worked out once for each change of it.
     */
    private static final class Works {
        private final Book book;
        private final Parts parts = new Parts();
        private final Flow flow = new Flow();
        private final Course[] narrow;
        /** For the one THING that may stand in: it alone has so many KEYS. */
        private final Course wide;
        private final Mixtures fitting = new Mixtures();
        private final Mixtures tried = new Mixtures();
        /** PARTS of p and of q that are in some MIXTURE that FITS. */
        private final long[] madeLow = new long[WARES];
        private final long[] madeHigh = new long[WARES];
        private int holder = -1;
        private int turn;
        private int chartTurn;
        private int meshTurn;

        Works(Book book) {
            this.book = book;
            narrow = new Course[] {new Course(parts, PAIRS), new Course(parts, PAIRS), new Course(parts, PAIRS)};
            wide = new Course(parts, PAIRS * PAIRS);
        }

        Course course(int thing) {
            return thing == holder || !isThing(thing) ? wide : narrow[thing];
        }

        void update() {
            if (turn == book.turn) {
                return;
            }
            turn = book.turn;
            holder = book.guestOf(book.stander) < 0 ? -1 : book.stander;
            for (int thing = 0; thing < THINGS; thing++) {
                course(thing).set(book, thing, book.guestOf(thing));
            }
            strain();
            sift(fitting, 0);
            setMade();
        }

        /** The courses' meshes let through what AGREES. */
        void strain() {
            if (meshTurn == turn) {
                return;
            }
            meshTurn = turn;
            for (int thing = 0; thing < THINGS; thing++) {
                flow.set(book, thing, 0, 0);
                course(thing).strain(flow);
            }
        }

        /**
         * The first MIXTURE that FITS with GIVES that are more and with doubted MONTHS; -1: none does.
         * The THING that stands in comes last: its course is dear, and often the others leave none.
         */
        int firstBy(int more, int doubted) {
            meshTurn = 0;
            tried.copy(book.kept);
            for (int i = 1; i <= THINGS && tried.next(0) >= 0; i++) {
                int thing = (holder + i) % THINGS;
                flow.set(book, thing, more, doubted);
                course(thing).strain(flow);
                course(thing).mesh.narrow(tried);
            }
            return tried.next(0);
        }

        /** Those that keep the RULE and pass the meshes of all THINGS but some (bits). */
        void sift(Mixtures mixtures, int without) {
            mixtures.copy(book.kept);
            for (int thing = 0; thing < THINGS; thing++) {
                if ((without >> thing & 1) == 0) {
                    course(thing).mesh.narrow(mixtures);
                }
            }
        }

        void chart() {
            if (chartTurn == turn) {
                return;
            }
            chartTurn = turn;
            for (int thing = 0; thing < THINGS; thing++) {
                flow.set(book, thing, 0, 0);
                course(thing).chart(flow);
            }
        }

        int first() {
            return fitting.next(0);
        }

        /** The first MONTH with which it can not go on, or how many MONTHS till then and that one. */
        int goesTill(int mixture, int thing, int last) {
            flow.set(book, thing, 0, 0);
            flow.begin();
            for (int month = 0; month <= last && month < MONTHS; month++) {
                if (!flow.go(month, book.neededBy(mixture, month, thing))) {
                    return month;
                }
            }
            return last + 1;
        }

        /** 3 times the MONTH, and the THING, with which it can not go on; -1: it AGREES. */
        int judged(int mixture) {
            int found = -1;
            int till = book.months;
            for (int thing = 0; thing < THINGS; thing++) {
                int goes = goesTill(mixture, thing, till - 1);
                if (goes < till) {
                    till = goes;
                    found = THINGS * goes + thing;
                }
            }
            return found;
        }

        private void setMade() {
            for (int ware = 0; ware < WARES; ware++) {
                madeLow[ware] = 0;
                madeHigh[ware] = 0;
            }
            for (int part = 0; part < PARTS; part++) {
                long low = fitting.low(part);
                long high = fitting.high(part);
                madeLow[1] |= low;
                madeHigh[1] |= high;
                if ((low | high) != 0 && part < 64) {
                    madeLow[0] |= 1L << part;
                } else if ((low | high) != 0) {
                    madeHigh[0] |= 1L << part - 64;
                }
            }
        }

        /** How much of a THING is in a WARE over all that FIT, as bits. */
        int amounts(int ware, int thing) {
            int amounts = 0;
            for (int amount = 0; isWare(ware) && amount < 5; amount++) {
                long low = madeLow[ware] & parts.lowWith(thing, amount);
                long high = madeHigh[ware] & parts.highWith(thing, amount);
                amounts |= (low | high) != 0 ? 1 << amount : 0;
            }
            return amounts;
        }

        int inEvery() {
            int bits = 0;
            for (int place = 0; place < WARES * THINGS; place++) {
                int amounts = amounts(place / THINGS, place % THINGS);
                bits |= (amounts & 1) == 0 ? 1 << place : 0;
            }
            return bits;
        }

        int inNone() {
            int bits = 0;
            for (int place = 0; place < WARES * THINGS; place++) {
                int amounts = amounts(place / THINGS, place % THINGS);
                bits |= amounts == 1 ? 1 << place : 0;
            }
            return bits;
        }

        /** The one with the fewest THINGS; -1: none FITS. */
        int plainest() {
            int found = -1;
            int fewest = 2 * THINGS + 1;
            for (int part = 0; part < PARTS; part++) {
                int things = thingsInPart(part);
                for (int few = 0; few <= THINGS && things + few < fewest; few++) {
                    int second = firstWith(part, few);
                    if (second >= 0) {
                        fewest = things + few;
                        found = part * PARTS + second;
                    }
                }
            }
            return found;
        }

        /** The first PART of q with so many THINGS that FITS with a PART of p. */
        private int firstWith(int part, int things) {
            long low = fitting.low(part) & parts.lowOfThings(things);
            long high = fitting.high(part) & parts.highOfThings(things);
            return low != 0 ? lowestPlace(low) : high != 0 ? 64 + lowestPlace(high) : -1;
        }

        int endOfPrices(int ware, int month, int end) {
            int found = -1;
            for (int part = 0; isWare(ware) && part < PARTS; part++) {
                long bit = part < 64 ? madeLow[ware] >>> part : madeHigh[ware] >>> part - 64;
                if ((bit & 1) != 0) {
                    int price = book.priceOf(part, month);
                    found = found < 0 ? price : end == 0 ? Math.min(found, price) : Math.max(found, price);
                }
            }
            return found;
        }

        /** PAIRS of a THING over all that FIT, as bits. */
        int pairs(int thing) {
            int pairs = 0;
            for (int part = 0; part < PARTS; part++) {
                for (int amount = 0; amount < 5; amount++) {
                    long low = fitting.low(part) & parts.lowWith(thing, amount);
                    long high = fitting.high(part) & parts.highWith(thing, amount);
                    pairs |= (low | high) != 0 ? 1 << 5 * amountIn(part, thing) + amount : 0;
                }
            }
            return pairs;
        }
    }

    /** NEAR and DOUBT. */
    private static final class Search {
        private final Works works;
        private int nearTurn;
        private int nearBy;
        private int nearFirst = -1;
        private int doubtTurn;
        private int doubtBits;
        private int doubtFirst = -1;

        Search(Works works) {
            this.works = works;
        }

        void seekNear() {
            if (nearTurn == works.turn) {
                return;
            }
            nearTurn = works.turn;
            nearBy = 0;
            nearFirst = works.first();
            if (nearFirst < 0 && works.firstBy(GIVE_MOST, 0) >= 0) {
                nearBy = leastMore();
                nearFirst = works.firstBy(nearBy, 0);
            }
        }

        /** What FITS by some GIVES FITS by greater ones too, so halving finds the least. */
        private int leastMore() {
            int none = 0;
            int some = GIVE_MOST;
            for (int i = 0; i < GIVE_MOST && some - none > 1; i++) {
                int middle = (none + some) / 2;
                if (works.firstBy(middle, 0) >= 0) {
                    some = middle;
                } else {
                    none = middle;
                }
            }
            return some;
        }

        void seekDoubt() {
            if (doubtTurn == works.turn) {
                return;
            }
            doubtTurn = works.turn;
            doubtBits = 0;
            doubtFirst = works.first();
            for (int many = 1; many <= DOUBT_MOST && doubtFirst < 0; many++) {
                seekDoubtOf(many);
            }
        }

        private void seekDoubtOf(int many) {
            for (int bits = 1; bits < 1 << works.book.months && bits < 1 << MONTHS; bits++) {
                if (Integer.bitCount(bits) == many) {
                    doubtBits = bits;
                    doubtFirst = works.firstBy(0, bits);
                    if (doubtFirst >= 0) {
                        return;
                    }
                }
            }
        }
    }

    /** CHANGED. */
    private static final class Break {
        private final Works works;
        private final Mesh mesh;
        private final Mixtures starts = new Mixtures();
        /** By the PAIR (and 25 times the partner's PAIR) till the MONTH: the PAIRS from it on, as bits. */
        private final int[] laters = new int[PAIRS * PAIRS];
        private int partner = -1;
        private int turn;
        private int month = -1;
        private int thing;
        private int before;
        private int behind;

        Break(Works works) {
            this.works = works;
            mesh = new Mesh(works.parts);
        }

        void seek() {
            works.chart();
            if (turn == works.turn) {
                return;
            }
            turn = works.turn;
            works.strain();
            month = -1;
            for (int at = 1; at < works.book.months && month < 0; at++) {
                for (int one = 0; one < THINGS && month < 0; one++) {
                    if (hasStarts(one) && hasLaters(at, one) && isFound(one)) {
                        month = at;
                        thing = one;
                    }
                }
            }
        }

        /** Another THING whose PAIR tells, too, whether this one's may be changed; -1: none. */
        private int partnerOf(int one) {
            if (works.holder < 0) {
                return -1;
            }
            int stoodFor = works.course(works.holder).guest;
            return one == works.holder ? stoodFor : one == stoodFor ? works.holder : -1;
        }

        /** Sets what can come later for all PAIRS; whether there is some. */
        private boolean hasLaters(int at, int one) {
            mesh.close(one, partner);
            boolean some = false;
            int partnerPairs = partner < 0 ? 1 : PAIRS;
            for (int pair = 0; pair < PAIRS; pair++) {
                int among = latersOf(at, one, pair);
                for (int other = 0; other < partnerPairs; other++) {
                    int bits = among == 0 ? 0 : latersWith(at, one, pair, other, among);
                    laters[other * PAIRS + pair] = bits;
                    if (bits != 0) {
                        mesh.pass(pair, other);
                        some = true;
                    }
                }
            }
            return some;
        }

        /** The PAIRS that can come later as far as they hang on this THING's PAIR alone. */
        private int latersOf(int at, int one, int pair) {
            int unlike = (1 << PAIRS) - 1 & ~(1 << pair);
            Course course = works.course(one);
            return one == works.holder ? unlike : course.onwardPairs(course.aheadOf(pair, at), at, 0, 1, unlike);
        }

        /** Of those the ones that the THING's own STOCK or its partner's can bear with a partner's PAIR. */
        private int latersWith(int at, int one, int pair, int other, int among) {
            if (partner < 0) {
                return among;
            }
            Course wide = works.course(works.holder);
            if (one == works.holder) {
                return wide.onwardPairs(wide.aheadOf(pair + PAIRS * other, at), at, PAIRS * other, 1, among);
            }
            return wide.onwardPairs(wide.aheadOf(other + PAIRS * pair, at), at, other, PAIRS, among);
        }

        /** Sets those that keep the RULE and AGREE with all THINGS that such a change does not touch. */
        private boolean hasStarts(int one) {
            partner = partnerOf(one);
            int touched = 1 << one;
            if (partner >= 0 && partner == works.holder) {
                touched |= 1 << partner;
            }
            works.sift(starts, touched);
            return starts.next(0) >= 0;
        }

        private boolean isFound(int one) {
            mesh.narrow(starts);
            int first = starts.next(0);
            for (int i = 0; i < MIXTURES && first >= 0; i++) {
                if (isFoundFrom(first, one)) {
                    return true;
                }
                first = starts.next(first + 1);
            }
            return false;
        }

        private boolean isFoundFrom(int first, int one) {
            int other = partner < 0 ? 0 : pairOf(first, partner);
            int bits = laters[other * PAIRS + pairOf(first, one)];
            for (int later = 0; later < PAIRS; later++) {
                if ((bits >> later & 1) != 0 && works.book.kept.has(withPair(first, one, later))) {
                    before = first;
                    behind = withPair(first, one, later);
                    return true;
                }
            }
            return false;
        }
    }

    /** SETTLE and HIDE: how many FIT with other numbers of one IN. */
    private static final class Weighing {
        private static final int PLACES = MONTHS * THINGS;

        private final Works works;
        private final Mixtures others = new Mixtures();
        /** By KEY of one THING: MIXTURES that keep the RULE and AGREE with the other two. */
        private final int[] weights = new int[PAIRS * PAIRS];
        /** How many FIT by one IN after the other. */
        private final int[] counts = new int[2 * 5 + 2];
        /** By 3 times the MONTH, and the THING. */
        private final int[] mosts = new int[PLACES];
        /** By 9 times that, and how many more, less 1. */
        private final int[] fitting = new int[PLACES * HIDE_MOST];
        private int turn;

        Weighing(Works works) {
            this.works = works;
        }

        /** 3 times the MONTH, and the THING, that settle most. */
        int settling() {
            weighAll();
            int found = 0;
            for (int place = 1; place < works.book.months * THINGS && place < PLACES; place++) {
                if (mosts[place] < mosts[found]) {
                    found = place;
                }
            }
            return found;
        }

        int mostLeft(int place) {
            return place >= 0 && place < PLACES ? mosts[place] : 0;
        }

        /** 9 times the place, and how many more, less 1; -1: the PURSE does not do. */
        int hiding(int purse) {
            weighAll();
            int found = -1;
            int foundCost = 0;
            for (int at = 0; at < works.book.months * THINGS * HIDE_MOST && at < fitting.length; at++) {
                int price = works.book.cell(at / HIDE_MOST / THINGS, PRICE + at / HIDE_MOST % THINGS);
                int paid = price * (at % HIDE_MOST + 1);
                if (paid <= purse && (found < 0 || isBetter(at, paid, found, foundCost))) {
                    found = at;
                    foundCost = paid;
                }
            }
            return found;
        }

        private boolean isBetter(int at, int paid, int found, int foundCost) {
            return hidden(at) > hidden(found) || hidden(at) == hidden(found) && paid < foundCost;
        }

        int hidden(int at) {
            return at >= 0 && at < fitting.length ? fitting[at] : 0;
        }

        private void weighAll() {
            works.chart();
            if (turn == works.turn) {
                return;
            }
            turn = works.turn;
            works.strain();
            for (int thing = 0; thing < THINGS; thing++) {
                setWeights(thing);
                for (int month = 0; month < works.book.months && month < MONTHS; month++) {
                    weigh(works.course(thing), month, month * THINGS + thing);
                }
            }
        }

        private void weigh(Course course, int month, int place) {
            if (place < 0 || place >= PLACES) {
                return;
            }
            int in = works.book.cell(month, course.thing);
            int give = works.book.cell(month, GIVE);
            int less = Math.min(in, give);
            count(course, month, -less, give, 0);
            mosts[place] = 0;
            for (int i = 0; i <= less + give && i < counts.length; i++) {
                mosts[place] = Math.max(mosts[place], counts[i]);
            }
            count(course, month, 1, HIDE_MOST, give);
            for (int i = 0; i < HIDE_MOST; i++) {
                fitting[place * HIDE_MOST + i] = counts[i];
            }
        }

        /** How many FIT with so many more IN (from one number to another one), by that give or take. */
        private void count(Course course, int month, int from, int till, int slack) {
            for (int i = 0; i < counts.length; i++) {
                counts[i] = 0;
            }
            for (int key = 0; key < course.keys && key < weights.length; key++) {
                if (weights[key] > 0) {
                    countKey(course, key, month, from, till, slack);
                }
            }
            for (int i = 1; i < counts.length; i++) {
                counts[i] += counts[i - 1];
            }
        }

        /** What a KEY can do with is a span of INs, so it marks where that begins and where it has ended. */
        private void countKey(Course course, int key, int month, int from, int till, int slack) {
            int ahead = course.aheadOf(key, month);
            int onward = course.onwardFrom(key, month + 1);
            int need = course.needAt(key, month);
            int least = lowOf(onward) - highOf(ahead) + need;
            int most = highOf(onward) - lowOf(ahead) + need + works.book.stockCell(course.thing, LOST);
            if (ahead < 0 || onward < 0 || most < 0) {
                return;
            }
            int in = works.book.cell(month, course.thing);
            int begin = Math.max(from, least - slack - in) - from;
            int end = Math.min(till, most + slack - in) - from;
            if (begin >= 0 && begin <= end && end + 1 < counts.length) {
                counts[begin] += weights[key];
                counts[end + 1] -= weights[key];
            }
        }

        private void setWeights(int thing) {
            works.sift(others, 1 << thing);
            for (int key = 0; key < weights.length; key++) {
                weights[key] = 0;
            }
            int guest = works.course(thing).guest;
            for (int part = 0; part < PARTS; part++) {
                if ((others.low(part) | others.high(part)) != 0) {
                    addWeights(part, thing, guest);
                }
            }
        }

        private void addWeights(int part, int thing, int guest) {
            Parts parts = works.parts;
            int pair = 5 * amountIn(part, thing);
            for (int amount = 0; amount < 5; amount++) {
                long low = others.low(part) & parts.lowWith(thing, amount);
                long high = others.high(part) & parts.highWith(thing, amount);
                if (guest < 0 && pair + amount < weights.length) {
                    weights[pair + amount] += Long.bitCount(low) + Long.bitCount(high);
                } else if (guest >= 0 && (low | high) != 0) {
                    addGuestWeights(pair + amount, 5 * amountIn(part, guest), guest, low, high);
                }
            }
        }

        private void addGuestWeights(int pair, int guestPair, int guest, long low, long high) {
            Parts parts = works.parts;
            for (int amount = 0; amount < 5; amount++) {
                int key = pair + PAIRS * (guestPair + amount);
                if (key >= 0 && key < weights.length) {
                    weights[key] += Long.bitCount(low & parts.lowWith(guest, amount))
                            + Long.bitCount(high & parts.highWith(guest, amount));
                }
            }
        }
    }
}
