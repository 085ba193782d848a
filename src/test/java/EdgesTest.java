/** The boundary cases of part II and of the promises' own lines, each by answers worked out by hand. */
final class EdgesTest {
    private static final Due due = new Due("EdgesTest");

    public static void main(String[] args) {
        newObject();
        tenthsForPageOne();
        wordsOfPageZero();
        undoToNone();
        likelyAtBothEnds();
        leastOfSeveral();
        splitAtBothEnds();
        astrayNoneAndAll();
        bestLooksOfFewPages();
        bestLooksOfManyPages();
        othersBetweenAreNone();
        noneNeedsToBe();
        readersOfTwoPages();
        readersFromFrontAndBack();
        readersByHalves();
        readersNoneSuch();
        readersBeyondMay();
        shyReaders();
        boldReaders();
        readersByChapters();
        stopsAroundTheLast();
        stopAtBothEnds();
        opensWhereItCannot();
        marksThatStayOrFall();
        crumbsOfNobody();
        kindsOfNoneAndAll();
        kindsByTheFigure();
        dropsOfNoneAndAll();
        rowsThatAreEmptyOrFull();
        judgedAtEachPlace();
        judgedLastAlone();
        judgedBehindTheLooks();
        imageOfAll();
        imageOfNothing();
        countOfOthers();
        due.end();
    }

    private static void is(String call, long above, long below, long wantAbove, long wantBelow) {
        due.isFraction(call, above, below, wantAbove, wantBelow);
    }

    private static void newObject() {
        WhereIGotTo x = new WhereIGotTo();
        due.is("1 no look", x.looked(0), -1);
        due.is("1 no letters", x.book(), -1000);
        due.is("1 no row", x.judge(), -9);
        due.is("1 no image", x.restore(), -3);
        due.is("1 none to undo", x.undo(), -3);
        due.is("1 the first letter", x.feed('n'), 1);
        due.is("1 the first number", x.row(0), 1);
        due.is("1 the knower was", x.knower(0, 0), 0);
        is("1 alike", x.likely(7, 0, 0), x.likely(7, 0, 1), 1, 8);
        due.is("1 another object is new, too", new WhereIGotTo().count(6), 0);
    }

    private static void tenthsForPageOne() {
        WhereIGotTo x = Told.book("n2;");
        due.is("4 last is page 0", x.page(0, 4), 0);
        due.is("4 last is page 1", x.page(1, 4), 10);
        x.knower(1, 9);
        due.is("4 unsure on page 0", x.page(0, 4), 4);
        due.is("4 unsure on page 1", x.page(1, 4), 6);
        WhereIGotTo vague = Told.book("n24;k39;");
        due.is("4 vague on page 0", vague.page(0, 4), 5);
        due.is("4 vague on page 23", vague.page(23, 4), 9);
        WhereIGotTo asleep = Told.book("n24;k50;");
        int[] tenths = {0, 5, 5, 5, 10};
        for (int page = 0; page < tenths.length; page++) {
            due.is("4 asleep on page " + page, asleep.page(page, 4), tenths[page]);
        }
        due.is("4 a child on page 0", Told.book("k40;").page(0, 4), 10);
    }

    private static void wordsOfPageZero() {
        WhereIGotTo x = new WhereIGotTo();
        due.is("9 page 0 is known to all", x.look(0, 1), 1);
        due.is("9 not known to nobody", x.look(0, 0), -3);
        due.is("9 the last page may be known", x.look(7, 1), 2);
        due.is("9 it alone", x.may(), 128);
        due.is("9 undone", x.undo(), 1);
        due.is("9 or not", x.look(7, 0), 2);
        due.is("9 all but it", x.may(), 127);
    }

    private static void undoToNone() {
        WhereIGotTo x = Told.book("l031;l031;l031;l031;l031;l031;l031;l041;");
        for (int left = 7; left >= 0; left--) {
            due.is("11 undo", x.undo(), left);
            due.is("11 none there", x.looked(left), -1);
        }
        due.is("11 none is left", x.undo(), -3);
        due.is("11 nothing is left", x.count(1), 0);
        due.is("11 may all", x.may(), 255);
        due.is("11 counted", x.count(13), 1);
    }

    private static void likelyAtBothEnds() {
        WhereIGotTo x = Told.book("n24;");
        is("12 all from page 0 on", x.likely(0, 1, 0), x.likely(0, 1, 1), 1, 1);
        is("12 all from the last on", x.likely(23, 1, 0), x.likely(23, 1, 1), 1, 24);
        is("12 would of page 0", x.likely(0, 2, 0), x.likely(0, 2, 1), 1, 1);
        is("12 would of the last", x.likely(23, 2, 0), x.likely(23, 2, 1), 1, 24);
        x.look(22, 0);
        is("12 nothing", x.likely(22, 0, 0), x.likely(22, 0, 1), 0, 1);
        is("12 would never", x.likely(22, 2, 0), x.likely(22, 2, 1), 0, 1);
        is("12 nothing from one on", x.likely(22, 1, 0), x.likely(22, 1, 1), 0, 1);
        is("12 all from one on, none below", Told.book("l071;").likely(7, 1, 0), 1, 1, 1);
    }

    private static void leastOfSeveral() {
        WhereIGotTo x = Told.book("n24;");
        due.is("14 likeliest of all alike", x.best(0), 0);
        x.set(23, 0, 2);
        due.is("14 likeliest at the end", x.best(0), 23);
        x.set(22, 0, 2);
        due.is("14 likeliest, the least of two", x.best(0), 22);
        x.set(0, 0, 2);
        due.is("14 likeliest, the least of three", x.best(0), 0);
        due.is("14 from", x.best(1), 0);
        due.is("14 to", x.best(2), 23);
        x.look(23, 1);
        due.is("14 from one page", x.best(1), 23);
        due.is("14 to one page", x.best(2), 23);
        due.is("14 likeliest of one page", x.best(0), 23);
        WhereIGotTo first = Told.book("l010;");
        due.is("14 from page 0", first.best(1), 0);
        due.is("14 to page 0", first.best(2), 0);
        due.is("14 likeliest is page 0", first.best(0), 0);
    }

    private static void splitAtBothEnds() {
        due.is("14 split of two", Told.book("n2;").best(3), 1);
        due.is("14 split at the last", Told.book("n24;l231;").best(3), 1);
        due.is("14 split, nearly all on the last", Told.book("n3;c023;").best(3), 2);
        due.is("14 split, nearly all on the first", Told.book("n3;c003;").best(3), 1);
        // A look at 2 parts 1 from 2, one at 1 parts all from none.
        due.is("14 split, none on the first", Told.book("n3;c000;").best(3), 2);
        // At 1 as at 2 it is 1 to 3 or 3 to 1.
        due.is("14 split, of two alike", Told.book("n3;c012;").best(3), 1);
        due.is("14 what above", new WhereIGotTo().best(4), -2);
        due.is("14 what below", new WhereIGotTo().best(-1), -2);
    }

    private static void astrayNoneAndAll() {
        WhereIGotTo x = Told.book("n24;");
        due.is("15 none", x.astray(0, 1), 0);
        due.is("15 all", x.astray(0, 0), 0xffffff);
        due.is("15 all but the last", x.astray(23, 1), 0x7fffff);
        due.is("15 the last alone", x.astray(23, 0), 0x800000);
        x.knower(4, 0);
        due.is("15 a child never says no", x.astray(23, 0), 0xffffff);
        due.is("15 a child always says yes", x.astray(23, 1), 0);
        WhereIGotTo full = Told.book("n8;" + "l071;".repeat(8));
        due.is("15 behind eight looks", full.astray(7, 0), 128);
        due.is("15 of may alone", full.astray(0, 0), 128);
        due.is("15 is no look", full.count(1), 8);
    }

    private static void bestLooksOfFewPages() {
        WhereIGotTo two = Told.book("n2;s013;");
        due.is("16 worst of two", two.worst(), 1);
        is("17 mean of two", two.mean(0, 0), two.mean(0, 1), 1, 1);
        is("17 cost of two", two.mean(1, 0), two.mean(1, 1), 3, 2);
        due.is("18 first of two", two.first(0), 1);
        due.is("18 safe of two", two.first(1), 1);
        due.is("19 dear of two", two.dear(), 3);
        WhereIGotTo free = Told.book("n2;s009;");
        is("17 page 0 is never looked at", free.mean(1, 0), free.mean(1, 1), 0, 1);
        due.is("19 page 0 gives nothing away", free.dear(), 0);
    }

    private static void bestLooksOfManyPages() {
        int[] pages = {2, 3, 4, 5, 8, 9, 16, 17, 24};
        int[] worst = {1, 2, 2, 3, 3, 4, 4, 5, 5};
        for (int i = 0; i < pages.length; i++) {
            due.is("16 worst of " + pages[i], Told.book("n" + pages[i] + ";").worst(), worst[i]);
        }
        WhereIGotTo x = Told.book("n24;s239;");
        due.is("18 first of 24", x.first(0), 8);
        due.is("18 safe where all is free but the last", x.first(1), 1);
        is("17 the last of 24 must be told from the one ahead", x.mean(1, 0), x.mean(1, 1), 3, 8);
        due.is("19 dear is the last", x.dear(), 9);
        due.is("18 first at page 1", Told.book("n24;c009;l040;").first(0), 1);
        due.is("18 first at the last page", Told.book("n24;c239;l201;").first(0), 23);
    }

    private static void othersBetweenAreNone() {
        WhereIGotTo x = Told.book("n24;s235;s012;s224;" + "c010;c020;c030;c040;");
        for (int page = 5; page < 23; page++) {
            x.set(page, 0, 0);
        }
        due.is("16 two that are far apart", x.worst(), 1);
        is("17 mean", x.mean(0, 0), x.mean(0, 1), 1, 1);
        is("17 cost, at a page between", x.mean(1, 0), x.mean(1, 1), 0, 1);
        due.is("18 first, the least between", x.first(0), 1);
        due.is("18 safe, the least that gives nothing away", x.first(1), 2);
        due.is("19 dear, at a page between", x.dear(), 0);
    }

    private static void noneNeedsToBe() {
        for (String book : new String[] {"n24;l231;", "n24;l010;", "n2;c000;", "n2;c010;", "n8;l031;l040;"}) {
            WhereIGotTo x = Told.book(book);
            due.is("16 worst " + book, x.worst(), 0);
            is("17 mean " + book, x.mean(0, 0), x.mean(0, 1), 0, 1);
            is("17 cost " + book, x.mean(1, 0), x.mean(1, 1), 0, 1);
            due.is("18 first " + book, x.first(0), -9);
            due.is("18 safe " + book, x.first(1), -9);
            due.is("19 dear " + book, x.dear(), 0);
            is("25 mark " + book, x.mark(0, 0), x.mark(0, 1), 0, 1);
            due.is("18 none is counted " + book, x.count(12), 0);
        }
        due.is("18 what above", Told.book("n2;").first(2), -2);
        due.is("18 what below", Told.book("n2;c000;").first(-1), -2);
    }

    private static void readerIs(WhereIGotTo x, int kind, int last, int looks, int secrets) {
        due.is("20 reader " + kind + " " + last + " looks", x.reader(kind, last, 0), looks);
        due.is("20 reader " + kind + " " + last + " secrets", x.reader(kind, last, 1), secrets);
    }

    private static void readersOfTwoPages() {
        WhereIGotTo x = Told.book("n2;s007;s013;");
        for (int kind = 0; kind <= 5; kind++) {
            readerIs(x, kind, 0, 1, 3);
            readerIs(x, kind, 1, 1, 0);
            is("21 reader " + kind, x.readers(kind, 0, 0), x.readers(kind, 0, 1), 1, 1);
            is("21 reader " + kind, x.readers(kind, 1, 0), x.readers(kind, 1, 1), 3, 2);
        }
    }

    private static void readersFromFrontAndBack() {
        WhereIGotTo x = Told.book("n24;s011;s222;s233;");
        readerIs(x, 0, 0, 1, 1);
        readerIs(x, 0, 21, 22, 2);
        readerIs(x, 0, 22, 23, 3);
        readerIs(x, 0, 23, 23, 0);
        readerIs(x, 5, 23, 1, 0);
        readerIs(x, 5, 22, 2, 3);
        readerIs(x, 5, 1, 23, 5);
        readerIs(x, 5, 0, 23, 6);
    }

    private static void readersByHalves() {
        WhereIGotTo x = Told.book("n4;s012;s025;s037;");
        // Just half of them is below 2.
        readerIs(x, 1, 0, 2, 7);
        readerIs(x, 1, 1, 2, 5);
        readerIs(x, 1, 2, 2, 7);
        readerIs(x, 1, 3, 2, 0);
        x.set(3, 0, 2);
        // A little less than half is below 2 now: at 3 first, then at 2, of 2 and 1.
        readerIs(x, 1, 3, 1, 0);
        readerIs(x, 1, 2, 2, 7);
        readerIs(x, 1, 1, 3, 12);
        readerIs(x, 1, 0, 3, 14);
        WhereIGotTo front = Told.book("n3;c003;s012;s025;");
        // More than half is below 1 already.
        readerIs(front, 1, 0, 1, 2);
        readerIs(front, 1, 1, 2, 5);
        readerIs(front, 1, 2, 2, 0);
    }

    private static void readersNoneSuch() {
        WhereIGotTo x = Told.book("n24;c239;s239;s221;");
        for (int page = 1; page < 22; page++) {
            x.set(page, 0, 0);
        }
        // Of 0, 22 and 23 the last has 9 of 11: no part below a page is half of them.
        readerIs(x, 1, 23, 1, 0);
        readerIs(x, 1, 22, 2, 9);
        readerIs(x, 1, 0, 2, 9);
        readerIs(x, 4, 23, 1, 0);
        // Nor is of 0 and 22 a part below a page three fourths: at 22, the last open one.
        readerIs(x, 4, 22, 2, 9);
        readerIs(x, 4, 0, 2, 10);
        due.is("20 the half of the two left is at 1", x.reader(1, 0, 1), 9);
    }

    /** The told LAST needs no part: then what the reader ends with is not it. */
    private static void readersBeyondMay() {
        WhereIGotTo x = Told.book("n4;s011;s021;s031;l031;");
        for (int last = 0; last <= 3; last++) {
            readerIs(x, 1, last, 0, 0);
            readerIs(x, 3, last, 0, 0);
            readerIs(x, 4, last, 0, 0);
        }
        readerIs(x, 0, 0, 1, 1);
        readerIs(x, 5, 0, 3, 3);
        readerIs(x, 2, 0, 1, 1);
        WhereIGotTo ends = Told.book("n4;c010;c020;s011;s021;s031;");
        readerIs(ends, 1, 2, 1, 0);
        readerIs(ends, 1, 0, 1, 1);
    }

    private static void shyReaders() {
        WhereIGotTo free = Told.book("n4;s011;s031;");
        // At 2, which has no secret; then the half of 2 and 3 is at 3, next behind the first; of 0 and 1 at 1.
        readerIs(free, 3, 0, 2, 1);
        readerIs(free, 3, 3, 2, 0);
        // At 1 for 2; of 1 to 3 the half is at 3, which has no secret; of 1 and 2 at 2, next behind the first anyhow.
        WhereIGotTo secret = Told.book("n4;s021;");
        readerIs(secret, 3, 0, 1, 0);
        readerIs(secret, 3, 1, 3, 1);
        readerIs(secret, 3, 2, 3, 0);
        readerIs(secret, 3, 3, 2, 0);
        readerIs(secret, 1, 0, 2, 1);
        secret.set(2, 1, 0);
        readerIs(secret, 3, 0, 2, 0);
    }

    private static void boldReaders() {
        WhereIGotTo x = Told.book("n4;");
        // Just three fourths of them are below 3; of 0 to 2 two thirds are below 2: at the last open one.
        readerIs(x, 4, 3, 1, 0);
        readerIs(x, 4, 2, 2, 0);
        readerIs(x, 4, 1, 3, 0);
        readerIs(x, 4, 0, 3, 0);
        WhereIGotTo five = Told.book("n5;");
        // Below 4 are four fifths, below 3 three fifths.
        readerIs(five, 4, 4, 1, 0);
        readerIs(five, 4, 3, 2, 0);
        WhereIGotTo front = Told.book("n4;c003;c010;");
        // 3 of 5 are below 1 and below 2, and 4 of 5 below 3.
        readerIs(front, 4, 3, 1, 0);
        readerIs(front, 4, 2, 2, 0);
        readerIs(front, 4, 0, 2, 0);
    }

    private static void readersByChapters() {
        WhereIGotTo none = Told.book("n4;");
        for (int last = 0; last <= 3; last++) {
            due.is("20 no chapter is as from the front", none.reader(2, last, 0), none.reader(0, last, 0));
        }
        WhereIGotTo x = Told.book("n6;s011;s022;s033;s044;s055;h01;h05;");
        // The first is not known: none is between it and page 0.
        readerIs(x, 2, 0, 1, 1);
        readerIs(x, 2, 1, 3, 7);
        readerIs(x, 2, 4, 5, 5);
        // The last page is the beginning of the last chapter: none is behind it.
        readerIs(x, 2, 5, 2, 0);
        WhereIGotTo all = Told.book("n4;h01;h02;h03;s021;");
        readerIs(all, 2, 0, 1, 0);
        readerIs(all, 2, 1, 2, 1);
        readerIs(all, 2, 3, 3, 0);
        WhereIGotTo last = Told.book("n4;h03;s031;");
        readerIs(last, 2, 0, 2, 1);
        readerIs(last, 2, 2, 3, 1);
        readerIs(last, 2, 3, 1, 0);
    }

    private static void stopsAroundTheLast() {
        WhereIGotTo x = Told.book("n24;l121;l130;");
        int[] costs = {12, 11, 10, 9, 8, 7, 6, 5, 4, 3, 2, 1, 0, 0, 3, 6, 9, 12, 15, 18, 21, 24, 27, 30};
        for (int r = 0; r < costs.length; r++) {
            is("23 stops " + r, x.stops(r, 0), x.stops(r, 1), costs[r], 1);
        }
        due.is("22 of two the least", x.stop(), 12);
    }

    private static void stopAtBothEnds() {
        due.is("22 at page 0", Told.book("n24;l010;").stop(), 0);
        due.is("22 at the last", Told.book("n24;l231;").stop(), 23);
        due.is("22 of two pages", Told.book("n2;").stop(), 1);
        due.is("22 of two pages, the first alone", Told.book("n2;c010;").stop(), 0);
        is("23 of two pages", Told.book("n2;").stops(1, 0), 1, 0, 1);
        is("23 of two pages", Told.book("n2;").stops(0, 0), Told.book("n2;").stops(0, 1), 1, 2);
        due.is("23 one beyond", Told.book("n2;").stops(2, 0), 4000000000000000001L);
    }

    private static void opensWhereItCannot() {
        WhereIGotTo x = Told.book("n3;c000;r010;r021;");
        is("24 no crack, no part", x.opens(0, 0, 0), x.opens(0, 0, 1), 0, 1);
        is("24 no crack, no part, another", x.opens(0, 1, 0), x.opens(0, 1, 1), 0, 1);
        is("24 by its own crack alone", x.opens(1, 1, 0), x.opens(1, 1, 1), 1, 1);
        is("24 not another's", x.opens(1, 2, 0), x.opens(1, 2, 1), 0, 1);
        is("24 by a crack", x.opens(2, 1, 0), x.opens(2, 1, 1), 1, 7);
        is("24 by both", x.opens(2, 2, 0), x.opens(2, 2, 1), 6, 7);
        x.set(0, 2, 1);
        is("24 a crack alone", x.opens(0, 1, 0), x.opens(0, 1, 1), 1, 2);
        is("24 a crack, but no part", x.opens(0, 0, 0), x.opens(0, 0, 1), 0, 1);
        WhereIGotTo last = Told.book("n24;r239;l231;");
        is("24 the last page", last.opens(23, 23, 0), last.opens(23, 23, 1), 1, 1);
        is("24 it can't fall open at page 0", last.opens(0, 23, 0), last.opens(0, 23, 1), 0, 1);
    }

    private static void marksThatStayOrFall() {
        WhereIGotTo x = Told.book("n3;");
        is("25 never falls out", x.mark(0, 0), x.mark(0, 1), 5, 3);
        is("25 falls out in one of ten", x.mark(1, 0), x.mark(1, 1), 3, 2);
        is("25 falls out in nine", x.mark(9, 0), x.mark(9, 1), 1, 6);
        is("25 always falls out", x.mark(10, 0), x.mark(10, 1), 0, 1);
        due.is("25 one below", x.mark(-1, 0), 4000000000000000004L);
        due.is("25 one above", x.mark(11, 0), 4000000000000000006L);
        due.is("25 below ahead of part", x.mark(-1, 2), 4000000000000000004L);
        due.is("25 part above", x.mark(10, 2), 4000000000000000002L);
        due.is("25 part below", x.mark(0, -1), 4000000000000000002L);
    }

    private static void crumbsOfNobody() {
        WhereIGotTo x = Told.book("n3;c000;l020;");
        is("26 nobody's", x.crumb(0, 0), x.crumb(0, 1), 0, 1);
        is("26 this one's, all to a half", x.crumb(1, 0), x.crumb(1, 1), 2, 3);
        is("26 the other one's alone", x.crumb(2, 0), x.crumb(2, 1), 0, 1);
        WhereIGotTo one = Told.book("n2;c000;");
        is("26 both are there", one.crumb(1, 0), one.crumb(1, 1), 1, 2);
        is("26 neither is", one.crumb(0, 0), one.crumb(0, 1), 0, 1);
    }

    private static void kindsOfNoneAndAll() {
        due.is("27 no looks", Told.book("n2;").kinds(), 63);
        due.is("27 eight looks", Told.book("l071;".repeat(8)).kinds(), 63);
        WhereIGotTo x = Told.book("n2;k30;l010;l011;l000;l001;");
        // Page 1, known and not, page 0, too: by one who is asleep on 1, but on 0 he can't know 1; by a vague one.
        due.is("27 all words of both pages", x.kinds(), 40);
        WhereIGotTo child = Told.book("k40;l071;l011;");
        due.is("27 what all say", child.kinds(), 63);
        child.set(7, 0, 0);
        // From page 6 page 7 is known by a child, and one who is vague; by others with a figure above 0.
        due.is("27 without a chance on it", child.kinds(), 24);
    }

    private static void kindsByTheFigure() {
        String[] figures = {"0", "1", "2"};
        // E of page 1 from 0 is the FIGURE; the half of 1, cut, is 0.
        int[] kinds = {24, 26, 62};
        for (int i = 0; i < figures.length; i++) {
            WhereIGotTo x = Told.book("n2;k4" + figures[i] + ";c010;l011;");
            due.is("27 figure " + figures[i], x.kinds(), kinds[i]);
        }
    }

    private static void dropsOfNoneAndAll() {
        due.is("28 no looks", Told.book("n2;").drops(), 0);
        due.is("28 one look", Told.book("n2;l011;").drops(), 1);
        due.is("28 one look that changes nothing", Told.book("n2;l010;").drops(), 0);
        // E of page 2 is 3 from page 0 and 4 from page 1; 9 times 3 to the 8th is 59049, but 4 to the 8th 65536.
        WhereIGotTo x = Told.book("n3;k14;c009;c020;" + "l021;".repeat(8));
        due.is("28 likeliest by eight", x.best(0), 1);
        due.is("28 each of eight", x.drops(), 255);
        x.undo();
        due.is("28 likeliest by seven", x.best(0), 0);
        due.is("28 none of seven", x.drops(), 0);
        due.is("28 the eighth alone", Told.book("l001;l001;l001;l001;l001;l001;l001;l071;").drops(), 128);
        due.is("28 the first alone", Told.book("l071;l001;l001;l001;l001;l001;l001;l001;").drops(), 1);
    }

    private static void rowsThatAreEmptyOrFull() {
        WhereIGotTo x = new WhereIGotTo();
        due.is("29 none", x.count(7), 0);
        for (int i = 1; i <= 12; i++) {
            due.is("29 number " + i, x.row(i % 2 == 1 ? 0 : 1), i);
        }
        due.is("29 the 13th", x.row(0), -6);
        due.is("29 the 13th, too great", x.row(100), -6);
        due.is("29 the 13th, below", x.row(-1), -4);
        due.is("29 twelve", x.count(7), 12);
        due.is("30 judged", x.judge(), -9);
        due.is("30 none then", x.count(7), 0);
        due.is("30 none is judged", x.judge(), -9);
        due.is("29 the first again", x.row(99), 1);
        due.is("30 the greatest number is no page", x.judge(), 0);
    }

    private static int judged(WhereIGotTo x, int... numbers) {
        for (int v : numbers) {
            x.row(v);
        }
        int judged = x.judge();
        due.is("30 the row has none then", x.count(7), 0);
        return judged;
    }

    private static void judgedAtEachPlace() {
        WhereIGotTo x = new WhereIGotTo();
        // A page that is not known makes nothing likely at the next that is; page 0 at once; behind the last none is.
        int[] behind = {-9, 1, -9, 5, -9, 7, -9, 9, -9, 11, -9, -9};
        for (int place = 0; place < 12; place++) {
            int[] row = {0, 1, 1, 1, 2, 1, 3, 1, 4, 1, 5, 1};
            row[place] = place % 2 == 0 ? 8 : 2;
            due.is("30 none such at " + place, judged(x, row), place);
            row[place] = 99;
            due.is("30 far beyond at " + place, judged(x, row), place);
            row[place] = place % 2 == 0 ? 7 : 0;
            due.is("30 the last page, the other word at " + place, judged(x, row), behind[place]);
        }
        due.is("30 nothing is counted", x.count(11) + x.count(12) + x.count(13), 0);
        due.is("30 nothing is a look", x.count(1), 0);
    }

    private static void judgedLastAlone() {
        WhereIGotTo x = new WhereIGotTo();
        due.is("30 one alone", judged(x, 0), 0);
        due.is("30 one alone that is no page", judged(x, 8), 0);
        due.is("30 the third alone", judged(x, 0, 1, 7), 2);
        due.is("30 the third alone, no page", judged(x, 0, 1, 99), 2);
        due.is("30 the eleventh alone", judged(x, 0, 1, 0, 1, 0, 1, 0, 1, 0, 1, 0), 10);
        due.is("30 a word ahead of it", judged(x, 0, 2, 7), 1);
        due.is("30 nothing likely ahead of it", judged(x, 0, 0, 7), 1);
    }

    private static void judgedBehindTheLooks() {
        WhereIGotTo full = Told.book("l031;".repeat(8));
        due.is("30 behind eight looks", judged(full, 3, 1, 4, 0), -9);
        due.is("30 against eight looks", judged(full, 4, 1, 3, 0), 3);
        due.is("30 against eight looks alone", judged(full, 3, 0), 1);
        due.is("30 eight looks still", full.count(1), 8);
        WhereIGotTo one = Told.book("n2;c000;");
        due.is("30 by a chance", judged(one, 1, 0), 1);
        due.is("30 by a chance, known", judged(one, 1, 1), -9);
        WhereIGotTo vague = Told.book("n2;k30;");
        due.is("30 any words of one who is vague", judged(vague, 0, 0, 0, 1, 1, 0, 1, 1, 0, 0, 1, 1), -9);
        due.is("30 no page of his", judged(vague, 0, 0, 2, 1), 2);
    }

    private static void imageOfAll() {
        WhereIGotTo x = Told.book("n24;c239;s239;r239;h23;k59;" + "l231;".repeat(8));
        due.is("32 image", x.image(), 8);
        Told.tell(x, "n2;k00;");
        x.feed(255);
        x.row(99);
        x.page(-1, 0);
        due.is("33 restore", x.restore(), 8);
        // A fresh one of 9 errs as far as 7 pages: of the last page from 15 on.
        int[] counts = {24, 8, 32, 2, 9, 9, 1, 1, 5, 9, -9, 1};
        for (int what = 0; what < counts.length; what++) {
            due.is("33 count " + what, x.count(what), counts[what]);
        }
        for (int what = 0; what <= 2; what++) {
            due.is("33 page", x.page(23, what), 9);
        }
        due.is("33 chapter", x.page(23, 3), 1);
        due.is("33 the eighth look", x.looked(7), 231);
        due.is("33 undo", x.undo(), 7);
        due.is("33 the image is as it was", x.restore(), 8);
        due.is("33 the letter is there still", x.book(), -1000);
        Told.tell(x, "n2;");
        due.is("32 another image", x.image(), 0);
        due.is("33 the other one", x.restore(), 0);
        due.is("33 its pages", x.count(0), 2);
    }

    private static void imageOfNothing() {
        WhereIGotTo x = new WhereIGotTo();
        due.is("33 none", x.restore(), -3);
        due.is("32 of a new object", x.image(), 0);
        x.look(7, 1);
        x.set(7, 0, 9);
        x.chapter(7);
        x.knower(5, 9);
        due.is("33 restore", x.restore(), 0);
        due.is("33 no look", x.looked(0), -1);
        due.is("33 the chance", x.page(7, 0), 1);
        due.is("33 no chapter", x.page(7, 3), 0);
        due.is("33 the knower", x.knower(0, 0), 0);
        due.is("33 none to undo", x.undo(), -3);
        due.is("33 counted, with the first", x.count(13), 2);
    }

    private static void countOfOthers() {
        WhereIGotTo x = new WhereIGotTo();
        for (int what : new int[] {Integer.MIN_VALUE, -16, -11, -1, 10, 17, 18, 99, Integer.MAX_VALUE}) {
            due.is("34 another what " + what, x.count(what), -9);
        }
        for (int what = 11; what <= 16; what++) {
            due.is("34 no refusals " + what, x.count(what), 0);
        }
        due.is("34 the first what", x.count(0), 8);
        due.is("34 the last what of what there is", x.count(9), 0);
    }
}
