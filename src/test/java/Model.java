import java.math.BigInteger;
import java.util.ArrayList;
import java.util.Arrays;
import java.util.List;
import java.util.TreeMap;
import java.util.TreeSet;

/**
 * The document once more, written apart from the program: slow, with the Java library, and as close to the words as
 * may be. ModelTest holds the program's answers against it.
 */
final class Model {
    /** All that there is, but the image, letters, the row and refusals. */
    static final class State {
        int[] chance = filled(8, 1);
        int[] secret = filled(8, 0);
        int[] crack = filled(8, 0);
        TreeSet<Integer> chapters = new TreeSet<>(List.of(0));
        int kind = 0;
        int figure = 0;
        List<int[]> looks = new ArrayList<>();

        State copy() {
            State s = new State();
            s.chance = chance.clone();
            s.secret = secret.clone();
            s.crack = crack.clone();
            s.chapters = new TreeSet<>(chapters);
            s.kind = kind;
            s.figure = figure;
            s.looks = new ArrayList<>(looks);
            return s;
        }

        int pages() {
            return chance.length;
        }
    }

    State state = new State();
    State image = null;
    StringBuilder letters = new StringBuilder();
    List<Integer> row = new ArrayList<>();
    TreeMap<Integer, Integer> refused = new TreeMap<>();

    static int[] filled(int n, int v) {
        int[] row = new int[n];
        Arrays.fill(row, v);
        return row;
    }

    int no(int number) {
        refused.merge(number, 1, Integer::sum);
        return number;
    }

    long noLong(int number) {
        return 4000000000000000000L - no(number);
    }

    boolean isPage(int p) {
        return p >= 0 && p < state.pages();
    }

    static boolean within(int v, int least, int greatest) {
        return v >= least && v <= greatest;
    }

    // TENTHS, PARTS, MAY

    static int unsureE(int figure, int p, int l) {
        int far = p > l ? p - (l + 1) : l - p;
        return Math.max(0, Math.min(4, figure - far));
    }

    static int tenths(int kind, int figure, int p, int l) {
        int sure = p <= l ? 10 : 0;
        int towards = p <= l ? -1 : 1;
        int e = unsureE(figure, p, l);
        if (kind == 0) {
            return sure;
        } else if (kind == 1) {
            return sure + towards * e;
        } else if (kind == 2) {
            return sure + towards * (e / 2);
        } else if (kind == 3) {
            return sure + towards * (e + 1);
        } else if (kind == 4) {
            return 10;
        }
        return p == l || p == l - 1 || p == l - 2 ? 5 : tenths(2, figure, p, l);
    }

    static int word(int kind, int figure, int p, int said, int l) {
        int t = tenths(kind, figure, p, l);
        return said == 1 ? t : 10 - t;
    }

    static BigInteger part(State s, int kind, List<int[]> looks, int l) {
        BigInteger part = BigInteger.valueOf(s.chance[l]);
        for (int[] look : looks) {
            part = part.multiply(BigInteger.valueOf(word(kind, s.figure, look[0], look[1], l)));
        }
        return part;
    }

    BigInteger part(int l) {
        return part(state, state.kind, state.looks, l);
    }

    static boolean likelyAtAll(State s, int kind, List<int[]> looks) {
        for (int l = 0; l < s.pages(); l++) {
            if (part(s, kind, looks, l).signum() > 0) {
                return true;
            }
        }
        return false;
    }

    static boolean likelyAtAll(State s) {
        return likelyAtAll(s, s.kind, s.looks);
    }

    BigInteger all() {
        return sum(everyPage());
    }

    BigInteger sum(List<Integer> pages) {
        BigInteger sum = BigInteger.ZERO;
        for (int l : pages) {
            sum = sum.add(part(l));
        }
        return sum;
    }

    List<Integer> everyPage() {
        List<Integer> pages = new ArrayList<>();
        for (int l = 0; l < state.pages(); l++) {
            pages.add(l);
        }
        return pages;
    }

    List<Integer> mayPages() {
        List<Integer> pages = new ArrayList<>();
        for (int l : everyPage()) {
            if (part(l).signum() > 0) {
                pages.add(l);
            }
        }
        return pages;
    }

    static int bits(Iterable<Integer> pages) {
        int bits = 0;
        for (int p : pages) {
            bits += 1 << p;
        }
        return bits;
    }

    static long line(BigInteger above, BigInteger below, int part) {
        if (below.signum() == 0) {
            return part;
        }
        BigInteger common = above.gcd(below);
        return (part == 0 ? above : below).divide(common).longValueExact();
    }

    static BigInteger big(long v) {
        return BigInteger.valueOf(v);
    }

    // the calls

    int feed(int letter) {
        if (letter < 0) {
            return no(-4);
        }
        if (letter > 255 || letters.length() == 96) {
            return no(-6);
        }
        letters.append((char) letter);
        return letters.length();
    }

    private static final String STATEMENT = "(n\\d\\d?|[csrl]\\d\\d\\d|[hk]\\d\\d);";

    /** Whether letters can be the front of a book: some few more make a book of them. */
    static boolean canGoOn(String text) {
        for (String more : new String[] {"", ";", "0;", "00;", "000;"}) {
            if ((text + more).matches("(" + STATEMENT + ")*")) {
                return true;
            }
        }
        return false;
    }

    int book() {
        String text = letters.toString();
        letters.setLength(0);
        for (int i = 0; i < text.length(); i++) {
            if (!canGoOn(text.substring(0, i + 1))) {
                return -1000 - i;
            }
        }
        if (!text.matches("(" + STATEMENT + ")+")) {
            return -1000 - text.length();
        }
        State s = state.copy();
        int place = 0;
        String[] statements = text.split(";");
        for (String statement : statements) {
            if (!tell(s, statement)) {
                return -2000 - place;
            }
            place += statement.length() + 1;
        }
        state = s;
        return statements.length;
    }

    private static boolean tell(State s, String statement) {
        String digits = statement.substring(1);
        char letter = statement.charAt(0);
        if (letter == 'n') {
            int n = Integer.parseInt(digits);
            if (!within(n, 2, 24)) {
                return false;
            }
            s.chance = filled(n, 1);
            s.secret = filled(n, 0);
            s.crack = filled(n, 0);
            s.chapters = new TreeSet<>(List.of(0));
            s.looks.clear();
            return true;
        }
        if (letter == 'k') {
            s.kind = digits.charAt(0) - '0';
            s.figure = digits.charAt(1) - '0';
            return s.kind <= 5 && likelyAtAll(s);
        }
        int p = Integer.parseInt(digits.substring(0, 2));
        if (p >= s.pages()) {
            return false;
        }
        if (letter == 'h') {
            return p != 0 && (s.chapters.remove(p) || s.chapters.add(p));
        }
        int v = digits.charAt(2) - '0';
        if (letter == 'l') {
            s.looks.add(new int[] {p, v});
            return v <= 1 && s.looks.size() <= 8 && likelyAtAll(s);
        }
        (letter == 'c' ? s.chance : letter == 's' ? s.secret : s.crack)[p] = v;
        return likelyAtAll(s);
    }

    int page(int p, int what) {
        if (!isPage(p)) {
            return no(-1);
        }
        if (!within(what, 0, 4)) {
            return no(-2);
        }
        return what == 0 ? state.chance[p]
            : what == 1 ? state.secret[p]
            : what == 2 ? state.crack[p]
            : what == 3 ? (state.chapters.contains(p) ? 1 : 0)
            : tenths(state.kind, state.figure, 1, p);
    }

    int set(int p, int what, int v) {
        if (!isPage(p)) {
            return no(-1);
        }
        if (!within(what, 0, 2)) {
            return no(-2);
        }
        if (v < 0) {
            return no(-4);
        }
        if (v > 9) {
            return no(-6);
        }
        State s = state.copy();
        int[] figures = what == 0 ? s.chance : what == 1 ? s.secret : s.crack;
        int was = figures[p];
        figures[p] = v;
        if (!likelyAtAll(s)) {
            return no(-3);
        }
        state = s;
        return was;
    }

    int chapter(int p) {
        if (!isPage(p) || p == 0) {
            return no(-1);
        }
        if (state.chapters.remove(p)) {
            return 0;
        }
        state.chapters.add(p);
        return 1;
    }

    int knower(int kind, int figure) {
        if (!within(kind, 0, 5)) {
            return no(-2);
        }
        if (figure < 0) {
            return no(-4);
        }
        if (figure > 9) {
            return no(-6);
        }
        State s = state.copy();
        s.kind = kind;
        s.figure = figure;
        if (!likelyAtAll(s)) {
            return no(-3);
        }
        int was = 10 * state.kind + state.figure;
        state = s;
        return was;
    }

    int tenths(int p, int l) {
        return isPage(p) && isPage(l) ? tenths(state.kind, state.figure, p, l) : no(-1);
    }

    int look(int p, int said) {
        if (!isPage(p)) {
            return no(-1);
        }
        if (!within(said, 0, 1)) {
            return no(-2);
        }
        if (state.looks.size() == 8) {
            return no(-6);
        }
        State s = state.copy();
        s.looks.add(new int[] {p, said});
        if (!likelyAtAll(s)) {
            return no(-3);
        }
        state = s;
        return s.looks.size();
    }

    int looked(int i) {
        if (!within(i, 0, state.looks.size() - 1)) {
            return no(-1);
        }
        return 10 * state.looks.get(i)[0] + state.looks.get(i)[1];
    }

    int undo() {
        if (state.looks.isEmpty()) {
            return no(-3);
        }
        state.looks.remove(state.looks.size() - 1);
        return state.looks.size();
    }

    BigInteger would(int p) {
        BigInteger would = BigInteger.ZERO;
        for (int l : everyPage()) {
            would = would.add(part(l).multiply(big(tenths(p, l))));
        }
        return would;
    }

    long likely(int p, int what, int part) {
        if (!isPage(p)) {
            return noLong(-1);
        }
        if (!within(what, 0, 2) || !within(part, 0, 1)) {
            return noLong(-2);
        }
        BigInteger above = what == 0 ? part(p)
            : what == 1 ? sum(everyPage().subList(p, state.pages()))
            : would(p);
        return line(above, what == 2 ? all().multiply(big(10)) : all(), part);
    }

    int may() {
        return bits(mayPages());
    }

    static int likeliest(State s, List<int[]> looks) {
        int likeliest = 0;
        for (int l = s.pages() - 1; l >= 0; l--) {
            if (part(s, s.kind, looks, l).compareTo(part(s, s.kind, looks, likeliest)) >= 0) {
                likeliest = l;
            }
        }
        return likeliest;
    }

    int best(int what) {
        if (!within(what, 0, 3)) {
            return no(-2);
        }
        List<Integer> may = mayPages();
        if (what < 3) {
            return what == 0 ? likeliest(state, state.looks) : what == 1 ? may.get(0) : may.get(may.size() - 1);
        }
        int split = 0;
        BigInteger least = null;
        for (int p = 1; p < state.pages(); p++) {
            BigInteger greater = would(p).max(all().multiply(big(10)).subtract(would(p)));
            if (least == null || greater.compareTo(least) < 0) {
                least = greater;
                split = p;
            }
        }
        return split;
    }

    int astray(int p, int said) {
        if (!isPage(p)) {
            return no(-1);
        }
        if (!within(said, 0, 1)) {
            return no(-2);
        }
        List<int[]> more = new ArrayList<>(state.looks);
        more.add(new int[] {p, said});
        List<Integer> astray = mayPages();
        astray.removeIf(l -> part(state, state.kind, more, l).signum() > 0);
        return bits(astray);
    }

    // the best ways, over the pages of MAY alone: a look that parts none of them from another is no look to be thought of

    static List<Integer> below(List<Integer> pages, int p) {
        List<Integer> below = new ArrayList<>(pages);
        below.removeIf(l -> l >= p);
        return below;
    }

    static List<Integer> from(List<Integer> pages, int p) {
        List<Integer> from = new ArrayList<>(pages);
        from.removeIf(l -> l < p);
        return from;
    }

    /** Goals: 0 fewest and 1 cheapest in the mean (times all), 2 fewest and 3 cheapest at worst. */
    BigInteger ifLooked(int goal, List<Integer> may, int p, TreeMap<Integer, BigInteger> known) {
        List<Integer> no = below(may, p);
        List<Integer> yes = from(may, p);
        BigInteger secret = big(state.secret[p]);
        BigInteger ifNo = least(goal, no, known);
        BigInteger ifYes = least(goal, yes, known);
        if (goal == 0) {
            return sum(may).add(ifNo).add(ifYes);
        } else if (goal == 1) {
            return sum(no).multiply(secret).add(ifNo).add(ifYes);
        } else if (goal == 2) {
            return ifNo.max(ifYes).add(BigInteger.ONE);
        }
        return secret.add(ifNo).max(ifYes);
    }

    BigInteger least(int goal, List<Integer> may, TreeMap<Integer, BigInteger> known) {
        if (may.size() == 1) {
            return BigInteger.ZERO;
        }
        BigInteger least = known.get(bits(may));
        if (least != null) {
            return least;
        }
        for (int p = may.get(0) + 1; p <= may.get(may.size() - 1); p++) {
            BigInteger here = ifLooked(goal, may, p, known);
            least = least == null ? here : least.min(here);
        }
        known.put(bits(may), least);
        return least;
    }

    BigInteger least(int goal) {
        return least(goal, mayPages(), new TreeMap<>());
    }

    int worst() {
        return least(2).intValueExact();
    }

    long mean(int what, int part) {
        if (!within(what, 0, 1) || !within(part, 0, 1)) {
            return noLong(-2);
        }
        return line(least(what), all(), part);
    }

    int first(int what) {
        if (!within(what, 0, 1)) {
            return no(-2);
        }
        List<Integer> may = mayPages();
        if (may.size() == 1) {
            return -9;
        }
        TreeMap<Integer, BigInteger> known = new TreeMap<>();
        BigInteger least = least(what, may, known);
        int p = may.get(0) + 1;
        while (!ifLooked(what, may, p, known).equals(least)) {
            p++;
        }
        return p;
    }

    int dear() {
        return least(3).intValueExact();
    }

    // readers: which pages they look at, one behind the other

    List<Integer> looksOf(int kind, int last) {
        List<Integer> looks = new ArrayList<>();
        int n = state.pages();
        if (kind == 0) {
            for (int p = 1; p < n && (looks.isEmpty() || looks.get(looks.size() - 1) <= last); p++) {
                looks.add(p);
            }
        } else if (kind == 5) {
            for (int p = n - 1; p >= 1 && (looks.isEmpty() || looks.get(looks.size() - 1) > last); p--) {
                looks.add(p);
            }
        } else if (kind == 2) {
            addLooksByChapters(looks, last);
        } else {
            List<Integer> open = everyPage();
            while (open.stream().filter(l -> part(l).signum() > 0).count() > 1) {
                int p = nextOf(kind, open);
                looks.add(p);
                open = p <= last ? from(open, p) : below(open, p);
            }
        }
        return looks;
    }

    private void addLooksByChapters(List<Integer> looks, int last) {
        int latest = 0;
        int notKnown = state.pages();
        for (int c : state.chapters.tailSet(1)) {
            looks.add(c);
            if (c > last) {
                notKnown = c;
                break;
            }
            latest = c;
        }
        for (int p = latest + 1; p < notKnown; p++) {
            looks.add(p);
            if (p > last) {
                return;
            }
        }
    }

    private int nextOf(int kind, List<Integer> open) {
        int fourths = kind == 4 ? 3 : 2;
        int next = open.get(open.size() - 1);
        for (int i = open.size() - 1; i >= 1; i--) {
            BigInteger below = sum(below(open, open.get(i)));
            if (below.multiply(big(4)).compareTo(sum(open).multiply(big(fourths))) >= 0) {
                next = open.get(i);
            }
        }
        return kind == 3 && state.secret[next] > 0 ? open.get(1) : next;
    }

    int tally(int kind, int last, int what) {
        List<Integer> looks = looksOf(kind, last);
        if (what == 0) {
            return looks.size();
        }
        return looks.stream().filter(p -> p > last).mapToInt(p -> state.secret[p]).sum();
    }

    int reader(int kind, int last, int what) {
        if (!within(kind, 0, 5) || !within(what, 0, 1)) {
            return no(-2);
        }
        return isPage(last) ? tally(kind, last, what) : no(-1);
    }

    long readers(int kind, int what, int part) {
        if (!within(kind, 0, 5) || !within(what, 0, 1) || !within(part, 0, 1)) {
            return noLong(-2);
        }
        BigInteger sum = BigInteger.ZERO;
        for (int l : everyPage()) {
            sum = sum.add(part(l).multiply(big(tally(kind, l, what))));
        }
        return line(sum, all(), part);
    }

    BigInteger stopAt(int r) {
        BigInteger sum = BigInteger.ZERO;
        for (int l : everyPage()) {
            int cost = Math.max(0, l - r) + 3 * Math.max(0, r - l - 1);
            sum = sum.add(part(l).multiply(big(cost)));
        }
        return sum;
    }

    int stop() {
        int stop = state.pages() - 1;
        for (int r = stop; r >= 0; r--) {
            if (stopAt(r).compareTo(stopAt(stop)) <= 0) {
                stop = r;
            }
        }
        return stop;
    }

    long stops(int r, int part) {
        if (!isPage(r)) {
            return noLong(-1);
        }
        return within(part, 0, 1) ? line(stopAt(r), all(), part) : noLong(-2);
    }

    BigInteger opensIf(int q, int l) {
        return part(l).multiply(big(state.crack[q] + (q == l ? 5 : 0)));
    }

    long opens(int q, int last, int part) {
        if (!isPage(q) || !isPage(last)) {
            return noLong(-1);
        }
        if (!within(part, 0, 1)) {
            return noLong(-2);
        }
        BigInteger sum = BigInteger.ZERO;
        for (int l : everyPage()) {
            sum = sum.add(opensIf(q, l));
        }
        return line(opensIf(q, last), sum, part);
    }

    long mark(int f, int part) {
        if (f < 0) {
            return noLong(-4);
        }
        if (f > 10) {
            return noLong(-6);
        }
        if (!within(part, 0, 1)) {
            return noLong(-2);
        }
        BigInteger looks = least(0).multiply(big(10));
        BigInteger looksIfMarked = least(0).multiply(big(f));
        return line(looks.subtract(looksIfMarked), all().multiply(big(10)), part);
    }

    long crumb(int p, int part) {
        if (!isPage(p)) {
            return noLong(-1);
        }
        if (!within(part, 0, 1)) {
            return noLong(-2);
        }
        BigInteger mine = part(p).multiply(big(Arrays.stream(state.chance).sum()));
        BigInteger others = big(state.chance[p]).multiply(all());
        return line(mine, mine.add(others), part);
    }

    int kinds() {
        TreeSet<Integer> kinds = new TreeSet<>();
        for (int kind = 0; kind <= 5; kind++) {
            if (likelyAtAll(state, kind, state.looks)) {
                kinds.add(kind);
            }
        }
        return bits(kinds);
    }

    int drops() {
        TreeSet<Integer> drops = new TreeSet<>();
        for (int i = 0; i < state.looks.size(); i++) {
            List<int[]> others = new ArrayList<>(state.looks);
            others.remove(i);
            if (likeliest(state, others) != likeliest(state, state.looks)) {
                drops.add(i);
            }
        }
        return bits(drops);
    }

    int row(int v) {
        if (v < 0) {
            return no(-4);
        }
        if (v > 99 || row.size() == 12) {
            return no(-6);
        }
        row.add(v);
        return row.size();
    }

    int judge() {
        List<Integer> numbers = row;
        row = new ArrayList<>();
        List<int[]> looks = new ArrayList<>(state.looks);
        for (int i = 0; i < numbers.size(); i += 2) {
            if (!isPage(numbers.get(i)) || i + 1 == numbers.size()) {
                return i;
            }
            looks.add(new int[] {numbers.get(i), numbers.get(i + 1)});
            if (numbers.get(i + 1) > 1 || !likelyAtAll(state, state.kind, looks)) {
                return i + 1;
            }
        }
        return -9;
    }

    int seeds(int kind, int n, int z, int what) {
        if (!within(kind, 0, 5)) {
            return no(-2);
        }
        if (n < 1) {
            return no(-4);
        }
        if (n > 30) {
            return no(-6);
        }
        if (!within(what, 0, 1)) {
            return no(-2);
        }
        List<Integer> urn = new ArrayList<>();
        for (int l : everyPage()) {
            for (int i = 0; i < state.chance[l]; i++) {
                urn.add(l);
            }
        }
        int sum = 0;
        long seed = z;
        for (int i = 0; i < n; i++) {
            seed = (seed * 1103515245L + 12345L) & 0xffffffffL;
            int draw = (int) ((seed % 0x80000000L) / 65536 % urn.size());
            sum += tally(kind, urn.get(draw), what);
        }
        return sum;
    }

    int image() {
        image = state.copy();
        return state.looks.size();
    }

    int restore() {
        if (image == null) {
            return no(-3);
        }
        state = image.copy();
        return state.looks.size();
    }

    int count(int what) {
        switch (what) {
            case 0: return state.pages();
            case 1: return state.looks.size();
            case 2: return Arrays.stream(state.chance).sum();
            case 3: return state.chapters.size();
            case 4: return Arrays.stream(state.secret).sum();
            case 5: return mayPages().size();
            case 6: return letters.length();
            case 7: return row.size();
            case 8: return state.kind;
            case 9: return state.figure;
            default: return within(what, 11, 16) ? refused.getOrDefault(10 - what, 0) : -9;
        }
    }
}
