/**
 * Where had I got to: a book that has fallen shut, and one who says of its pages that he knows them, or not.
 * The document (DOC.md) says what each call must answer; the comments use its words, in capitals.
 */
public final class WhereIGotTo {
    private static final int LEAST_PAGES = 2;
    private static final int MOST_PAGES = 24;
    private static final int PAGES_AT_FIRST = 8;
    private static final int MOST_LOOKS = 8;
    private static final int MOST_LETTERS = 96;
    private static final int TOP_LETTER = 255;
    private static final int MOST_NUMBERS = 12;
    private static final int TOP_NUMBER = 99;
    private static final int MOST_EVENINGS = 30;
    private static final int TOP_DIGIT = 9;
    private static final int TENTHS = 10;
    private static final int KINDS = 6;

    private static final int NOBODY = -1;
    private static final int OTHER = -2;
    private static final int STATE = -3;
    private static final int BELOW = -4;
    private static final int ROOM = -6;
    private static final int NONE = -9;
    private static final long LONG_REFUSAL = 4000000000000000000L;

    private static final int WRONG_LETTER = -1000;
    private static final int WRONG_STATEMENT = -2000;

    private static final int CHANCE = 0;
    private static final int SECRET = 1;
    private static final int CRACK = 2;

    private static final int KNOWER = 0;
    private static final int FRESH = 2;
    private static final int VAGUE = 3;
    private static final int CHILD = 4;
    private static final int SLEEPY = 5;
    private static final int MOST_ERROR = 4;

    private static final int HALF = 1;
    private static final int CHAPTER = 2;
    private static final int SHY = 3;
    private static final int BOLD = 4;
    private static final int BACK = 5;

    private static final int FEWEST_IN_MEAN = 0;
    private static final int CHEAPEST_IN_MEAN = 1;
    private static final int FEWEST_AT_WORST = 2;
    private static final int CHEAPEST_AT_WORST = 3;

    private static final int MISSED_COSTS = 3;
    private static final int OWN_CRACK = 5;

    private static final int DRAW_FACTOR = 1103515245;
    private static final int DRAW_STEP = 12345;
    private static final int WITHOUT_SIGN = 0x7fffffff;
    private static final int DRAW_CUT = 65536;

    private final Book now = new Book();
    private final Book kept = new Book();
    private final Book draft = new Book();
    private final Letters text = new Letters();
    private final Parts parts = new Parts();
    private final Search search = new Search(now, parts);
    private final Evening evening = new Evening(now, parts);
    private final int[] numbers = new int[MOST_NUMBERS];
    private final int[] refusals = new int[1 - ROOM];
    private int numberCount = 0;
    private boolean hasImage = false;

    public WhereIGotTo() {
    }

    public int feed(int letter) {
        if (letter < 0) {
            return refuse(BELOW);
        }
        if (letter > TOP_LETTER || text.length >= MOST_LETTERS) {
            return refuse(ROOM);
        }
        text.add(letter);
        return text.length;
    }

    public int book() {
        draft.copyFrom(now);
        int answer = text.tellTo(draft);
        text.length = 0;
        if (answer >= 0) {
            now.copyFrom(draft);
        }
        return answer;
    }

    public int page(int page, int what) {
        if (!now.has(page)) {
            return refuse(NOBODY);
        }
        switch (what) {
            case CHANCE:
            case SECRET:
            case CRACK:
                return now.figureAt(page, what);
            case 3:
                return now.beginsAt(page) ? 1 : 0;
            case 4:
                return now.tenthsAt(1, page);
            default:
                return refuse(OTHER);
        }
    }

    public int set(int page, int what, int v) {
        if (!now.has(page)) {
            return refuse(NOBODY);
        }
        if (what < CHANCE || what > CRACK) {
            return refuse(OTHER);
        }
        if (v < 0) {
            return refuse(BELOW);
        }
        if (v > TOP_DIGIT) {
            return refuse(ROOM);
        }
        int was = now.figureAt(page, what);
        if (!now.put(page, what, v)) {
            return refuse(STATE);
        }
        return was;
    }

    public int chapter(int page) {
        if (!now.turnChapter(page)) {
            return refuse(NOBODY);
        }
        return now.beginsAt(page) ? 1 : 0;
    }

    public int knower(int kind, int figure) {
        if (isNoKind(kind)) {
            return refuse(OTHER);
        }
        if (figure < 0) {
            return refuse(BELOW);
        }
        if (figure > TOP_DIGIT) {
            return refuse(ROOM);
        }
        int was = 10 * now.kind + now.figure;
        if (!now.become(kind, figure)) {
            return refuse(STATE);
        }
        return was;
    }

    public int tenths(int page, int last) {
        if (!now.has(page) || !now.has(last)) {
            return refuse(NOBODY);
        }
        return now.tenthsAt(page, last);
    }

    public int look(int page, int said) {
        if (!now.has(page)) {
            return refuse(NOBODY);
        }
        if (isNoWord(said)) {
            return refuse(OTHER);
        }
        if (now.looks >= MOST_LOOKS) {
            return refuse(ROOM);
        }
        if (!now.addLook(page, said)) {
            return refuse(STATE);
        }
        return now.looks;
    }

    public int looked(int i) {
        if (i < 0 || i >= now.looks) {
            return refuse(NOBODY);
        }
        return 10 * now.lookPage[i] + now.lookSaid[i];
    }

    public int undo() {
        if (now.looks == 0) {
            return refuse(STATE);
        }
        now.looks--;
        return now.looks;
    }

    public long likely(int page, int what, int part) {
        if (!now.has(page)) {
            return refuseLong(NOBODY);
        }
        if (what < 0 || what > 2 || isNoPart(part)) {
            return refuseLong(OTHER);
        }
        weigh();
        switch (what) {
            case 0:
                return inLeastTerms(parts.of[page], parts.total(), part);
            case 1:
                return inLeastTerms(parts.between(page, now.pages - 1), parts.total(), part);
            default:
                return inLeastTerms(wouldOf(page), TENTHS * parts.total(), part);
        }
    }

    public int may() {
        weigh();
        return parts.someAsBits();
    }

    public int best(int what) {
        weigh();
        switch (what) {
            case 0:
                return parts.likeliest();
            case 1:
                return parts.firstSome();
            case 2:
                return parts.lastSome();
            case 3:
                return pageOfEvenestLook();
            default:
                return refuse(OTHER);
        }
    }

    public int astray(int page, int said) {
        if (!now.has(page)) {
            return refuse(NOBODY);
        }
        if (isNoWord(said)) {
            return refuse(OTHER);
        }
        weigh();
        return parts.someAsBits() & now.pagesAgainst(page, said);
    }

    public int worst() {
        weigh();
        return (int) search.least(FEWEST_AT_WORST);
    }

    public long mean(int what, int part) {
        if (isNoGoalInMean(what) || isNoPart(part)) {
            return refuseLong(OTHER);
        }
        weigh();
        return inLeastTerms(search.least(what), parts.total(), part);
    }

    public int first(int what) {
        if (isNoGoalInMean(what)) {
            return refuse(OTHER);
        }
        weigh();
        return search.firstLook(what);
    }

    public int dear() {
        weigh();
        return (int) search.least(CHEAPEST_AT_WORST);
    }

    public int reader(int kind, int last, int what) {
        if (isNoKind(kind) || isNoTally(what)) {
            return refuse(OTHER);
        }
        if (!now.has(last)) {
            return refuse(NOBODY);
        }
        weigh();
        evening.spend(kind, last);
        return evening.tally(what);
    }

    public long readers(int kind, int what, int part) {
        if (isNoKind(kind) || isNoTally(what) || isNoPart(part)) {
            return refuseLong(OTHER);
        }
        weigh();
        long sum = 0;
        for (int last = 0; last < now.pages; last++) {
            evening.spend(kind, last);
            sum += parts.of[last] * evening.tally(what);
        }
        return inLeastTerms(sum, parts.total(), part);
    }

    public int stop() {
        weigh();
        int stop = 0;
        for (int r = 1; r < now.pages; r++) {
            if (sumOfStop(r) < sumOfStop(stop)) {
                stop = r;
            }
        }
        return stop;
    }

    public long stops(int r, int part) {
        if (!now.has(r)) {
            return refuseLong(NOBODY);
        }
        if (isNoPart(part)) {
            return refuseLong(OTHER);
        }
        weigh();
        return inLeastTerms(sumOfStop(r), parts.total(), part);
    }

    public long opens(int q, int last, int part) {
        if (!now.has(q) || !now.has(last)) {
            return refuseLong(NOBODY);
        }
        if (isNoPart(part)) {
            return refuseLong(OTHER);
        }
        weigh();
        // How much all CRACKS are together is the same for every LAST, so it falls out of the fraction.
        long all = parts.total() * now.crack[q] + parts.of[q] * OWN_CRACK;
        long its = parts.of[last] * (now.crack[q] + (q == last ? OWN_CRACK : 0));
        return inLeastTerms(its, all, part);
    }

    public long mark(int f, int part) {
        if (f < 0) {
            return refuseLong(BELOW);
        }
        if (f > TENTHS) {
            return refuseLong(ROOM);
        }
        if (isNoPart(part)) {
            return refuseLong(OTHER);
        }
        weigh();
        return inLeastTerms((TENTHS - f) * search.least(FEWEST_IN_MEAN), TENTHS * parts.total(), part);
    }

    public long crumb(int page, int part) {
        if (!now.has(page)) {
            return refuseLong(NOBODY);
        }
        if (isNoPart(part)) {
            return refuseLong(OTHER);
        }
        weigh();
        long thisOne = parts.of[page] * now.sumOf(now.chance);
        long another = now.chance[page] * parts.total();
        return inLeastTerms(thisOne, thisOne + another, part);
    }

    public int kinds() {
        int bits = 0;
        for (int kind = 0; kind < KINDS; kind++) {
            if (now.isPossibleWith(kind)) {
                bits |= 1 << kind;
            }
        }
        return bits;
    }

    public int drops() {
        weigh();
        int likeliest = parts.likeliest();
        int bits = 0;
        for (int look = 0; look < now.looks; look++) {
            parts.weigh(now, look);
            if (parts.likeliest() != likeliest) {
                bits |= 1 << look;
            }
        }
        return bits;
    }

    public int row(int v) {
        if (v < 0) {
            return refuse(BELOW);
        }
        if (v > TOP_NUMBER || numberCount >= MOST_NUMBERS) {
            return refuse(ROOM);
        }
        numbers[numberCount] = v;
        numberCount++;
        return numberCount;
    }

    public int judge() {
        int judged = placeOfWrongNumber();
        numberCount = 0;
        return judged;
    }

    public int seeds(int kind, int n, int z, int what) {
        if (isNoKind(kind)) {
            return refuse(OTHER);
        }
        if (n < 1) {
            return refuse(BELOW);
        }
        if (n > MOST_EVENINGS) {
            return refuse(ROOM);
        }
        if (isNoTally(what)) {
            return refuse(OTHER);
        }
        weigh();
        int sum = 0;
        int seed = z;
        for (int i = 0; i < n; i++) {
            seed = seed * DRAW_FACTOR + DRAW_STEP;
            evening.spend(kind, lastByDraw(seed));
            sum += evening.tally(what);
        }
        return sum;
    }

    public int image() {
        kept.copyFrom(now);
        hasImage = true;
        return now.looks;
    }

    public int restore() {
        if (!hasImage) {
            return refuse(STATE);
        }
        now.copyFrom(kept);
        return now.looks;
    }

    public int count(int what) {
        if (what >= 11 && what <= 16) {
            return refusals[what - 10];
        }
        switch (what) {
            case 0:
                return now.pages;
            case 1:
                return now.looks;
            case 2:
                return now.sumOf(now.chance);
            case 3:
                return Integer.bitCount(now.chapters);
            case 4:
                return now.sumOf(now.secret);
            case 5:
                return Integer.bitCount(may());
            case 6:
                return text.length;
            case 7:
                return numberCount;
            case 8:
                return now.kind;
            case 9:
                return now.figure;
            default:
                return NONE;
        }
    }

    private int refuse(int number) {
        refusals[-number]++;
        return number;
    }

    private long refuseLong(int number) {
        return LONG_REFUSAL - refuse(number);
    }

    private static boolean isNoKind(int kind) {
        return kind < 0 || kind >= KINDS;
    }

    private static boolean isNoWord(int said) {
        return said < 0 || said > 1;
    }

    private static boolean isNoPart(int part) {
        return part < 0 || part > 1;
    }

    private static boolean isNoTally(int what) {
        return what < 0 || what > 1;
    }

    private static boolean isNoGoalInMean(int what) {
        return what < FEWEST_IN_MEAN || what > CHEAPEST_IN_MEAN;
    }

    /** What stands above (part 0) or below the line of a fraction; 0 by 1, if there is nothing to divide by. */
    private static long inLeastTerms(long above, long below, int part) {
        long common = commonDivisor(above, below);
        if (below <= 0 || common <= 0) {
            return part;
        }
        return (part == 0 ? above : below) / common;
    }

    private static long commonDivisor(long a, long b) {
        long more = a;
        long less = b;
        // Two numbers of 63 bits need fewer than a hundred steps.
        for (int step = 0; step < 1000 && less != 0; step++) {
            long rest = more % less;
            more = less;
            less = rest;
        }
        return more;
    }

    /** The PARTS follow the BOOK only here: each call that asks for them weighs them anew. */
    private void weigh() {
        parts.weigh(now, NONE);
    }

    /** WOULD of a PAGE, times ten and all PARTS. */
    private long wouldOf(int page) {
        long sum = 0;
        for (int last = 0; last < now.pages; last++) {
            sum += parts.of[last] * now.tenthsAt(page, last);
        }
        return sum;
    }

    private int pageOfEvenestLook() {
        int evenest = 1;
        for (int page = 2; page < now.pages; page++) {
            if (likelierWord(page) < likelierWord(evenest)) {
                evenest = page;
            }
        }
        return evenest;
    }

    private long likelierWord(int page) {
        long known = wouldOf(page);
        return Math.max(known, TENTHS * parts.total() - known);
    }

    /** The mean of STOP at a PAGE, times all PARTS. */
    private long sumOfStop(int r) {
        long sum = 0;
        for (int last = 0; last < now.pages; last++) {
            sum += parts.of[last] * costOfStop(r, last);
        }
        return sum;
    }

    private static int costOfStop(int r, int last) {
        return last >= r ? last - r : MISSED_COSTS * (r - last - 1);
    }

    private int placeOfWrongNumber() {
        weigh();
        int some = parts.someAsBits();
        for (int i = 0; i + 1 < numberCount; i += 2) {
            if (!now.has(numbers[i])) {
                return i;
            }
            if (isNoWord(numbers[i + 1])) {
                return i + 1;
            }
            some &= ~now.pagesAgainst(numbers[i], numbers[i + 1]);
            if (some == 0) {
                return i + 1;
            }
        }
        return numberCount % 2 == 1 ? numberCount - 1 : NONE;
    }

    private int lastByDraw(int seed) {
        int all = now.sumOf(now.chance);
        if (all <= 0) {
            return 0;
        }
        int rest = (seed & WITHOUT_SIGN) / DRAW_CUT % all;
        for (int page = 0; page < now.pages; page++) {
            rest -= now.chance[page];
            if (rest < 0) {
                return page;
            }
        }
        return 0;
    }

    /** TENTHS in which one of a KIND with a FIGURE, who was on LAST, says of a PAGE that he knows it. */
    private static int tenthsOf(int kind, int figure, int page, int last) {
        boolean reached = page <= last;
        if (kind == CHILD) {
            return TENTHS;
        }
        if (kind == KNOWER) {
            return reached ? TENTHS : 0;
        }
        if (kind == SLEEPY && reached && page >= last - 2) {
            return TENTHS / 2;
        }
        int distance = reached ? last - page : page - last - 1;
        int error = Math.min(MOST_ERROR, Math.max(0, figure - distance));
        if (kind == FRESH || kind == SLEEPY) {
            error /= 2;
        } else if (kind == VAGUE) {
            error++;
        }
        return reached ? TENTHS - error : error;
    }

    /** All that there is, but THE IMAGE, letters, the ROW and REFUSALS. Each change is refused with false. */
    private static final class Book {
        private final int[] chance = new int[MOST_PAGES];
        private final int[] secret = new int[MOST_PAGES];
        private final int[] crack = new int[MOST_PAGES];
        private final int[] lookPage = new int[MOST_LOOKS];
        private final int[] lookSaid = new int[MOST_LOOKS];
        private int pages = 0;
        private int chapters = 1;
        private int looks = 0;
        private int kind = KNOWER;
        private int figure = 0;

        private Book() {
            renew(PAGES_AT_FIRST);
        }

        private boolean renew(int number) {
            if (number < LEAST_PAGES || number > MOST_PAGES) {
                return false;
            }
            for (int page = 0; page < MOST_PAGES; page++) {
                chance[page] = 1;
                secret[page] = 0;
                crack[page] = 0;
            }
            pages = number;
            chapters = 1;
            looks = 0;
            return true;
        }

        private void copyFrom(Book other) {
            System.arraycopy(other.chance, 0, chance, 0, MOST_PAGES);
            System.arraycopy(other.secret, 0, secret, 0, MOST_PAGES);
            System.arraycopy(other.crack, 0, crack, 0, MOST_PAGES);
            System.arraycopy(other.lookPage, 0, lookPage, 0, MOST_LOOKS);
            System.arraycopy(other.lookSaid, 0, lookSaid, 0, MOST_LOOKS);
            pages = other.pages;
            chapters = other.chapters;
            looks = other.looks;
            kind = other.kind;
            figure = other.figure;
        }

        private boolean has(int page) {
            return page >= 0 && page < pages;
        }

        private boolean beginsAt(int page) {
            return (chapters >> page & 1) == 1;
        }

        private int[] figuresOf(int what) {
            switch (what) {
                case CHANCE:
                    return chance;
                case SECRET:
                    return secret;
                default:
                    return crack;
            }
        }

        private int figureAt(int page, int what) {
            return has(page) ? figuresOf(what)[page] : 0;
        }

        private boolean put(int page, int what, int v) {
            if (!has(page)) {
                return false;
            }
            int[] figures = figuresOf(what);
            int was = figures[page];
            figures[page] = v;
            if (!isPossibleWith(kind)) {
                figures[page] = was;
                return false;
            }
            return true;
        }

        private boolean turnChapter(int page) {
            if (page == 0 || !has(page)) {
                return false;
            }
            chapters ^= 1 << page;
            return true;
        }

        private boolean become(int newKind, int newFigure) {
            if (isNoKind(newKind)) {
                return false;
            }
            int was = figure;
            figure = newFigure;
            if (!isPossibleWith(newKind)) {
                figure = was;
                return false;
            }
            kind = newKind;
            return true;
        }

        private boolean addLook(int page, int said) {
            if (!has(page) || isNoWord(said) || looks >= MOST_LOOKS) {
                return false;
            }
            lookPage[looks] = page;
            lookSaid[looks] = said;
            looks++;
            if (!isPossibleWith(kind)) {
                looks--;
                return false;
            }
            return true;
        }

        private int sumOf(int[] figures) {
            int sum = 0;
            for (int page = 0; page < pages; page++) {
                sum += figures[page];
            }
            return sum;
        }

        private int tenthsAt(int page, int last) {
            return tenthsOf(kind, figure, page, last);
        }

        /** The PART of LAST by one of a KIND, as if one LOOK were not (NONE: all are). */
        private long partOf(int aKind, int last, int without) {
            long part = chance[last];
            for (int look = 0; look < looks; look++) {
                if (look == without) {
                    continue;
                }
                int known = tenthsOf(aKind, figure, lookPage[look], last);
                part *= lookSaid[look] == 1 ? known : TENTHS - known;
            }
            return part;
        }

        private boolean isPossibleWith(int aKind) {
            for (int last = 0; last < pages; last++) {
                if (partOf(aKind, last, NONE) > 0) {
                    return true;
                }
            }
            return false;
        }

        /** PAGES (bits) from which one would never say such a word of a PAGE. */
        private int pagesAgainst(int page, int said) {
            int never = said == 1 ? 0 : TENTHS;
            int bits = 0;
            for (int last = 0; last < pages; last++) {
                if (tenthsAt(page, last) == never) {
                    bits |= 1 << last;
                }
            }
            return bits;
        }
    }

    /** PARTS of all PAGES, with sums from the front. */
    private static final class Parts {
        private final long[] of = new long[MOST_PAGES];
        private final long[] sumBelow = new long[MOST_PAGES + 1];
        private final int[] someBelow = new int[MOST_PAGES + 1];
        private int pages = 0;

        private void weigh(Book book, int without) {
            pages = book.pages;
            for (int page = 0; page < pages; page++) {
                of[page] = book.partOf(book.kind, page, without);
                sumBelow[page + 1] = sumBelow[page] + of[page];
                someBelow[page + 1] = someBelow[page] + (of[page] > 0 ? 1 : 0);
            }
        }

        private long total() {
            return sumBelow[pages];
        }

        private long between(int from, int to) {
            return sumBelow[to + 1] - sumBelow[from];
        }

        /** How many PAGES from one to another have a PART above 0. */
        private int someBetween(int from, int to) {
            return someBelow[to + 1] - someBelow[from];
        }

        private int someAsBits() {
            int bits = 0;
            for (int page = 0; page < pages; page++) {
                if (of[page] > 0) {
                    bits |= 1 << page;
                }
            }
            return bits;
        }

        private int firstSome() {
            for (int page = 0; page < pages; page++) {
                if (of[page] > 0) {
                    return page;
                }
            }
            return NONE;
        }

        private int lastSome() {
            for (int page = pages - 1; page >= 0; page--) {
                if (of[page] > 0) {
                    return page;
                }
            }
            return NONE;
        }

        private int likeliest() {
            int likeliest = 0;
            for (int page = 1; page < pages; page++) {
                if (of[page] > of[likeliest]) {
                    likeliest = page;
                }
            }
            return likeliest;
        }
    }

    /** The best ways to find LAST by LOOKS, if he were a KNOWER. Means are told times all PARTS. */
    private static final class Search {
        private final Book book;
        private final Parts parts;
        private final long[] table = new long[MOST_PAGES * MOST_PAGES];

        private Search(Book book, Parts parts) {
            this.book = book;
            this.parts = parts;
        }

        private long least(int goal) {
            for (int span = 0; span < parts.pages; span++) {
                for (int low = 0; low + span < parts.pages; low++) {
                    table[cell(low, low + span)] = leastBetween(goal, low, low + span);
                }
            }
            return table[cell(0, parts.pages - 1)];
        }

        /** The least PAGE to look at first by which the least is had; NONE, if no LOOK needs to be. */
        private int firstLook(int goal) {
            long least = least(goal);
            int high = parts.pages - 1;
            if (parts.someBetween(0, high) <= 1) {
                return NONE;
            }
            for (int page = 1; page <= high; page++) {
                if (canPart(0, page, high) && ifFirst(goal, 0, page, high) == least) {
                    return page;
                }
            }
            return NONE;
        }

        /** Whether a LOOK tells anything: one that doesn't could be free, and would then be as good as none. */
        private boolean canPart(int low, int page, int high) {
            return parts.someBetween(low, page - 1) > 0 && parts.someBetween(page, high) > 0;
        }

        private static int cell(int low, int high) {
            return low * MOST_PAGES + high;
        }

        private long leastBetween(int goal, int low, int high) {
            if (parts.someBetween(low, high) <= 1) {
                return 0;
            }
            long least = NONE;
            for (int page = low + 1; page <= high; page++) {
                if (canPart(low, page, high)) {
                    long here = ifFirst(goal, low, page, high);
                    least = least == NONE ? here : Math.min(least, here);
                }
            }
            return least;
        }

        /** What it comes to, if of the PAGES from low to high one that parts is looked at first, then the best is done. */
        private long ifFirst(int goal, int low, int page, int high) {
            long ifNot = table[cell(low, page - 1)];
            long ifKnown = table[cell(page, high)];
            switch (goal) {
                case FEWEST_IN_MEAN:
                    return parts.between(low, high) + ifNot + ifKnown;
                case CHEAPEST_IN_MEAN:
                    return parts.between(low, page - 1) * book.secret[page] + ifNot + ifKnown;
                case FEWEST_AT_WORST:
                    return 1 + Math.max(ifNot, ifKnown);
                default:
                    return Math.max(book.secret[page] + ifNot, ifKnown);
            }
        }
    }

    /** One evening of a READER, with a KNOWER: what his LOOKS come to, if LAST is told. */
    private static final class Evening {
        private final Book book;
        private final Parts parts;
        private int last = 0;
        private int looks = 0;
        private int given = 0;

        private Evening(Book book, Parts parts) {
            this.book = book;
            this.parts = parts;
        }

        /** LOOKS (what 0), SECRETS given away (1) of the evening spent. */
        private int tally(int what) {
            return what == 0 ? looks : given;
        }

        private void spend(int kind, int toldLast) {
            last = toldLast;
            looks = 0;
            given = 0;
            switch (kind) {
                case HALF:
                case SHY:
                case BOLD:
                    narrow(kind);
                    break;
                case CHAPTER:
                    byChapters();
                    break;
                case BACK:
                    fromBack();
                    break;
                default:
                    fromFront(1, book.pages);
            }
        }

        private boolean knows(int page) {
            looks++;
            if (page <= last) {
                return true;
            }
            given += book.secret[page];
            return false;
        }

        private void fromFront(int from, int end) {
            for (int page = from; page < end; page++) {
                if (!knows(page)) {
                    return;
                }
            }
        }

        private void fromBack() {
            for (int page = book.pages - 1; page > 0; page--) {
                if (knows(page)) {
                    return;
                }
            }
        }

        private void byChapters() {
            int known = 0;
            int end = book.pages;
            for (int page = 1; page < book.pages; page++) {
                if (!book.beginsAt(page)) {
                    continue;
                }
                if (!knows(page)) {
                    end = page;
                    break;
                }
                known = page;
            }
            fromFront(known + 1, end);
        }

        private void narrow(int kind) {
            int low = 0;
            int high = book.pages - 1;
            for (int step = 0; step < MOST_PAGES && parts.someBetween(low, high) > 1; step++) {
                int page = nextPage(kind, low, high);
                if (knows(page)) {
                    low = page;
                } else {
                    high = page - 1;
                }
            }
        }

        /** Always above low and no more than high, so that each LOOK leaves fewer PAGES open. */
        private int nextPage(int kind, int low, int high) {
            if (kind == BOLD) {
                return pageAtFourths(3, low, high);
            }
            int page = pageAtFourths(2, low, high);
            boolean shies = kind == SHY && book.secret[page] > 0;
            return shies ? low + 1 : page;
        }

        private int pageAtFourths(int fourths, int low, int high) {
            long due = fourths * parts.between(low, high);
            for (int page = low + 1; page < high; page++) {
                if (4 * parts.between(low, page - 1) >= due) {
                    return page;
                }
            }
            return high;
        }
    }

    /** The letters of a BOOK that is being told. */
    private static final class Letters {
        private final int[] letters = new int[MOST_LETTERS];
        private int length = 0;

        private void add(int letter) {
            if (length < MOST_LETTERS) {
                letters[length] = letter;
                length++;
            }
        }

        /** How many STATEMENTS came to the book; or the FAULT, and then the book is not to be used. */
        private int tellTo(Book book) {
            int wrong = placeOfWrongLetter();
            if (wrong >= 0) {
                return WRONG_LETTER - wrong;
            }
            int statements = 0;
            int place = 0;
            while (place < length && statements < MOST_LETTERS) {
                int end = endOfDigits(place);
                if (!comesTo(book, place, end)) {
                    return WRONG_STATEMENT - place;
                }
                statements++;
                place = end + 1;
            }
            return statements;
        }

        /** The place of the first letter with which no BOOK can go on; NONE, if the letters are one. */
        private int placeOfWrongLetter() {
            if (length == 0) {
                return 0;
            }
            int place = 0;
            for (int step = 0; step < MOST_LETTERS && place < length; step++) {
                int end = endOfDigits(place);
                if (end - place - 1 < leastDigits(letters[place])) {
                    return mostDigits(letters[place]) == 0 ? place : end;
                }
                if (letterAt(end) != ';') {
                    return end;
                }
                place = end + 1;
            }
            return NONE;
        }

        /** The place behind the digits of the STATEMENT that begins at a place. */
        private int endOfDigits(int place) {
            int end = place + 1;
            int most = place + mostDigits(letterAt(place));
            while (end <= most && isDigit(letterAt(end))) {
                end++;
            }
            return end;
        }

        private static int mostDigits(int letter) {
            switch (letter) {
                case 'n':
                case 'h':
                case 'k':
                    return 2;
                case 'c':
                case 's':
                case 'r':
                case 'l':
                    return 3;
                default:
                    return 0;
            }
        }

        /** At least one, so that a letter with which no STATEMENT begins always lacks a digit. */
        private static int leastDigits(int letter) {
            return letter == 'n' ? 1 : Math.max(1, mostDigits(letter));
        }

        private static boolean isDigit(int letter) {
            return letter >= '0' && letter <= '9';
        }

        private int letterAt(int place) {
            return place >= 0 && place < length ? letters[place] : NONE;
        }

        private boolean comesTo(Book book, int place, int end) {
            int number = numberBetween(place + 1, Math.min(end, place + 3));
            int digit = numberBetween(place + 3, end);
            switch (letterAt(place)) {
                case 'n':
                    return book.renew(number);
                case 'c':
                    return book.put(number, CHANCE, digit);
                case 's':
                    return book.put(number, SECRET, digit);
                case 'r':
                    return book.put(number, CRACK, digit);
                case 'h':
                    return book.turnChapter(number);
                case 'k':
                    return book.become(number / 10, number % 10);
                default:
                    return book.addLook(number, digit);
            }
        }

        private int numberBetween(int from, int end) {
            int number = 0;
            for (int place = from; place < end; place++) {
                number = 10 * number + letterAt(place) - '0';
            }
            return number;
        }
    }
}
