import java.util.ArrayList;
import java.util.Arrays;
import java.util.HashMap;
import java.util.List;
import java.util.Map;
import java.util.function.Consumer;

/**
 * Each call with each of its arguments at the least and the greatest that it may be, one beyond and far beyond, in all
 * ways together, on objects that are new, least, usual, full.
 */
final class BoundsTest {
    private static final Due due = new Due("BoundsTest");
    private static final int FAR_BELOW = Integer.MIN_VALUE;
    private static final int FAR_ABOVE = Integer.MAX_VALUE;
    private static final long LONG_REFUSAL = 4000000000000000000L;
    private static final Map<String, Left> LEFT = new HashMap<>();

    /** How an object came to be as it is. */
    private record Start(String name, int pages, int looks, Consumer<Asked> script) {
        Asked from(Asked fresh) {
            script.accept(fresh);
            return fresh;
        }
    }

    /** What an argument may be, what else it must not be, the refusal of that, and how early that is told. */
    private record Arg(int[] good, int[] bad, int[] refusals, int rank) {
    }

    /** All that can be found out of an object in the end. */
    private record Left(long[] refusals, String seen, String usedUp) {
    }

    private record Call(String name, boolean isLong, Arg... args) {
    }

    private static final Start NEW = new Start("a new object", 8, 0, x -> { });
    private static final Start LEAST = new Start("the least object", 2, 1, x -> {
        x.tell("n2;c010;l010;");
        x.ask("image");
        x.ask("undo");
        x.feed("n3;");
        x.row(1);
        x.ask("look", 0, 1);
    });
    private static final Start USUAL = new Start("a usual object", 10, 2, x -> {
        x.tell("n10;c043;c052;s042;s061;r049;h04;h07;k13;l041;l060;");
        x.ask("image");
        x.tell("c059;s067;r054;h07;k26;");
        x.feed("l070;c011;");
        x.row(3, 1, 5, 0, 2);
    });
    private static final Start FULL = new Start("a full object", 24, 8, BoundsTest::fill);

    public static void main(String[] args) {
        for (Start start : List.of(NEW, LEAST, USUAL, FULL)) {
            for (Call call : callsOn(start)) {
                goodArguments(start, call);
                badArguments(start, call);
            }
        }
        withoutArguments();
        nothingIsLikely();
        noRoom();
        nothingThere();
        faultsOfBooks();
        allCallsOfAnObject();
        due.end();
    }

    /** Every number at its greatest; but the image was taken ahead of that, so that it is another one. */
    private static void fill(Asked x) {
        x.tell("n24;");
        for (int page = 0; page < 24; page++) {
            x.ask("set", page, 0, page == 23 ? 8 : 9);
            x.ask("set", page, 1, page == 0 ? 8 : 9);
            x.ask("set", page, 2, 9);
        }
        for (int page = 2; page < 24; page++) {
            x.ask("chapter", page);
        }
        x.ask("knower", 4, 9);
        for (int i = 0; i < 8; i++) {
            x.ask("look", 23 - i, 1);
        }
        x.ask("image");
        x.ask("set", 23, 0, 9);
        x.ask("set", 0, 1, 9);
        x.ask("chapter", 1);
        x.feed("h01;h02;s014;r235;".repeat(5) + "h03;n2");
        x.row(23, 1, 0, 1, 12, 1, 1, 1, 22, 1, 23, 0);
    }

    private static Left leftBy(Start start) {
        return LEFT.computeIfAbsent(start.name, name -> leftIn(start.from(Asked.program())));
    }

    private static Left leftIn(Asked x) {
        return new Left(x.refusals(), x.seen(), x.usedUp());
    }

    private static void isLeft(String label, Left got, long[] refusals, Left want) {
        due.isText(label + ", refusals", Arrays.toString(got.refusals), Arrays.toString(refusals));
        due.isText(label + ", what is seen then", got.seen, want.seen);
        due.isText(label + ", what was hidden then", got.usedUp, want.usedUp);
    }

    private static Arg none(int least, int greatest, int refusal, int rank) {
        int[] bad = {FAR_BELOW, least - 1, greatest + 1, FAR_ABOVE};
        return new Arg(allFrom(least, greatest), bad, new int[] {refusal, refusal, refusal, refusal}, rank);
    }

    private static Arg number(int least, int greatest, int rank) {
        int[] bad = {FAR_BELOW, least - 1, greatest + 1, FAR_ABOVE};
        return new Arg(new int[] {least, greatest}, bad, new int[] {-4, -4, -6, -6}, rank);
    }

    private static Arg any() {
        return new Arg(new int[] {0, FAR_BELOW, FAR_ABOVE}, new int[0], new int[0], 9);
    }

    private static int[] allFrom(int least, int greatest) {
        int[] all = new int[greatest - least + 1];
        for (int i = 0; i < all.length; i++) {
            all[i] = least + i;
        }
        return all;
    }

    /** Each call's refusals as the promises tell them, those that are told first with the least rank. */
    private static List<Call> callsOn(Start start) {
        Arg page = none(0, start.pages - 1, -1, 1);
        Arg part = none(0, 1, -2, 2);
        Arg kind = none(0, 5, -2, 1);
        List<Call> calls = new ArrayList<>(List.of(
            new Call("feed", false, number(0, 255, 1)),
            new Call("page", false, page, none(0, 4, -2, 2)),
            new Call("set", false, page, none(0, 2, -2, 2), number(0, 9, 3)),
            new Call("chapter", false, none(1, start.pages - 1, -1, 1)),
            new Call("knower", false, kind, number(0, 9, 2)),
            new Call("tenths", false, page, page),
            new Call("look", false, page, none(0, 1, -2, 2)),
            new Call("looked", false, none(0, start.looks - 1, -1, 1)),
            new Call("likely", true, page, none(0, 2, -2, 2), part),
            new Call("best", false, none(0, 3, -2, 1)),
            new Call("astray", false, page, none(0, 1, -2, 2)),
            new Call("mean", true, none(0, 1, -2, 1), part),
            new Call("first", false, none(0, 1, -2, 1)),
            new Call("reader", false, kind, none(0, start.pages - 1, -1, 2), none(0, 1, -2, 1)),
            new Call("readers", true, kind, none(0, 1, -2, 1), part),
            new Call("stops", true, page, part),
            new Call("opens", true, page, page, part),
            new Call("mark", true, number(0, 10, 1), part),
            new Call("crumb", true, page, part),
            new Call("row", false, number(0, 99, 1)),
            new Call("seeds", false, kind, number(1, 30, 2), any(), none(0, 1, -2, 3))));
        return calls;
    }

    private static List<int[]> waysOf(Call call, boolean withBad) {
        List<int[]> ways = new ArrayList<>(List.of(new int[0]));
        for (Arg arg : call.args) {
            List<int[]> longer = new ArrayList<>();
            for (int[] way : ways) {
                for (int value : withBad ? endsAndBad(arg) : arg.good) {
                    int[] more = Arrays.copyOf(way, way.length + 1);
                    more[way.length] = value;
                    longer.add(more);
                }
            }
            ways = longer;
        }
        return ways;
    }

    private static int[] endsAndBad(Arg arg) {
        int ends = Math.min(2, arg.good.length);
        int[] values = new int[ends + arg.bad.length];
        for (int i = 0; i < ends; i++) {
            values[i] = arg.good[i == 0 ? 0 : arg.good.length - 1];
        }
        System.arraycopy(arg.bad, 0, values, ends, arg.bad.length);
        return values;
    }

    /** The refusal that is told first of all that fit; 0, if none does. */
    private static int refusalOf(Call call, int[] way) {
        int first = 0;
        int rank = Integer.MAX_VALUE;
        for (int i = 0; i < way.length; i++) {
            Arg arg = call.args[i];
            for (int j = 0; j < arg.bad.length; j++) {
                if (way[i] == arg.bad[j] && arg.rank < rank) {
                    first = arg.refusals[j];
                    rank = arg.rank;
                }
            }
        }
        return first;
    }

    private static void goodArguments(Start start, Call call) {
        for (int[] way : waysOf(call, false)) {
            asTheModel(start, call.name, way);
        }
    }

    private static void asTheModel(Start start, String call, int... way) {
        String label = call + Arrays.toString(way) + " on " + start.name;
        Asked x = start.from(Asked.program());
        Asked m = start.from(Asked.model());
        due.is(label, x.ask(call, way), m.ask(call, way));
        Left want = leftIn(m);
        isLeft(label, leftIn(x), want.refusals, want);
    }

    private static void badArguments(Start start, Call call) {
        for (int[] way : waysOf(call, true)) {
            int refusal = refusalOf(call, way);
            if (refusal != 0) {
                refused(start, call.isLong, refusal, call.name, way);
            }
        }
    }

    private static void refused(Start start, int refusal, String call, int... way) {
        refused(start, false, refusal, call, way);
    }

    /** What a refused call answers; and all else is as on an object that was never asked, but that one more is counted. */
    private static void refused(Start start, boolean isLong, int refusal, String call, int... way) {
        String label = call + Arrays.toString(way) + " on " + start.name;
        Asked x = start.from(Asked.program());
        due.is(label, x.ask(call, way), isLong ? LONG_REFUSAL - refusal : refusal);
        Left unasked = leftBy(start);
        long[] oneMore = unasked.refusals.clone();
        oneMore[-1 - refusal]++;
        isLeft(label, leftIn(x), oneMore, unasked);
    }

    private static void withoutArguments() {
        String[] calls = {"book", "undo", "may", "worst", "dear", "stop", "kinds", "drops", "judge", "image", "restore"};
        for (Start start : List.of(NEW, LEAST, USUAL, FULL)) {
            for (String call : calls) {
                asTheModel(start, call);
            }
            for (int what : new int[] {FAR_BELOW, -1, 0, 1, 2, 3, 4, 5, 6, 7, 8, 9, 10, 11, 12, 13, 14, 15, 16, 17, FAR_ABOVE}) {
                asTheModel(start, "count", what);
            }
        }
    }

    private static Start told(String letters, int pages) {
        return new Start("a new object told " + letters, pages, 0, x -> x.tell(letters));
    }

    /** -3 of set, knower, look: and those told ahead of it come first. */
    private static void nothingIsLikely() {
        Start onePage = told("n2;c010;", 2);
        refused(onePage, -3, "set", 0, 0, 0);
        refused(onePage, -6, "set", 0, 0, 10);
        refused(onePage, -4, "set", 0, 0, -1);
        refused(onePage, -3, "look", 1, 1);
        refused(onePage, -3, "look", 0, 0);
        Start lastPage = told("n24;l231;l231;l231;l231;l231;l231;l231;", 24);
        refused(lastPage, -3, "set", 23, 0, 0);
        refused(lastPage, -3, "look", 0, 0);
        refused(lastPage, -3, "look", 23, 0);
        Start neither = told("k30;l071;l000;", 8);
        refused(neither, -3, "knower", 0, 0);
        refused(neither, -3, "knower", 0, 9);
        refused(neither, -3, "knower", 1, 3);
        refused(neither, -3, "knower", 4, 0);
        refused(neither, -6, "knower", 0, 10);
        refused(neither, -4, "knower", 0, -1);
        refused(neither, -2, "knower", 6, 0);
        // From page 3, 4 pages off the one and 3 off the other, an unsure one of 4 may say so, and a fresh one of 5.
        asTheModel(neither, "knower", 1, 4);
        asTheModel(neither, "knower", 2, 5);
        refused(told("k14;l071;l000;", 8), -3, "knower", 1, 3);
        refused(told("k25;l071;l000;", 8), -3, "knower", 2, 4);
    }

    /** The 97th letter, the 13th number of the row, the 9th look: -6, but what is told ahead of it comes first. */
    private static void noRoom() {
        refused(FULL, -6, "feed", 0);
        refused(FULL, -6, "feed", 255);
        refused(FULL, -6, "feed", 256);
        refused(FULL, -4, "feed", -1);
        refused(FULL, -6, "row", 0);
        refused(FULL, -6, "row", 99);
        refused(FULL, -6, "row", 100);
        refused(FULL, -4, "row", -1);
        refused(FULL, -6, "look", 0, 1);
        refused(FULL, -6, "look", 23, 1);
        refused(FULL, -6, "look", 23, 0);
        refused(FULL, -2, "look", 23, 2);
        refused(FULL, -2, "look", 23, -1);
        refused(FULL, -1, "look", 24, 1);
        refused(FULL, -1, "look", -1, 2);
    }

    private static void nothingThere() {
        refused(NEW, -3, "undo");
        refused(NEW, -3, "restore");
        refused(NEW, -1, "looked", 0);
        refused(told("l011;n8;", 8), -3, "undo");
        refused(new Start("an object without its only look", 8, 0, x -> {
            x.ask("look", 1, 1);
            x.ask("undo");
        }), -3, "undo");
        for (Start start : List.of(NEW, LEAST, USUAL, FULL)) {
            refused(start, -1, "chapter", 0);
        }
    }

    /** A FAULT is no refusal: nothing is counted, and nothing comes, but the letters are no more. */
    private static void faultsOfBooks() {
        for (Start start : List.of(NEW, LEAST, USUAL)) {
            String[] texts = {
                "n5;x", "n24;c019;s019;r019;h01;k19;l011", "n24;c019;s019;r019;h01;k19;l012;", "h01;n25;", "k00;l001;l000;"};
            int[] faults = {-1003, -1031, -2027, -2004, -2009};
            for (int i = 0; i < texts.length; i++) {
                Asked x = start.from(Asked.program());
                x.ask("book");
                Asked untold = start.from(Asked.program());
                untold.ask("book");
                due.is(texts[i] + " on " + start.name, x.tell(texts[i]), faults[i]);
                Left want = leftIn(untold);
                isLeft(texts[i] + " on " + start.name, leftIn(x), want.refusals, want);
            }
        }
    }

    /** As many calls as are promised, each of them refused, up to the last one. */
    private static void allCallsOfAnObject() {
        String[] calls = {"chapter", "best", "undo", "feed", "", "row"};
        int[] args = {-1, -1, 0, -1, 0, 100};
        for (int i = 0; i < calls.length; i++) {
            Asked x = Asked.program();
            for (int n = 1; n <= 511 && !calls[i].isEmpty(); n++) {
                due.is(calls[i] + " " + n, calls[i].equals("undo") ? x.ask("undo") : x.ask(calls[i], args[i]), -1 - i);
            }
            due.is("34 refusals -" + (i + 1), x.ask("count", 11 + i), calls[i].isEmpty() ? 0 : 511);
        }
    }
}
