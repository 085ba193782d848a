/** The boundary cases of the document's Terms, each by answers worked out by hand. */
final class TermsTest {
    private static final Due due = new Due("TermsTest");

    public static void main(String[] args) {
        pagesAtFirst();
        pagesOfABook();
        pagesThatAreNoMore();
        figuresOfAPage();
        chapters();
        kindsAndFigures();
        looks();
        errorsOfTheUnsure();
        errorsOfTheFresh();
        errorsOfTheVague();
        knowersAndChildren();
        sleepers();
        partsAtTheirGreatest();
        partsOfNothing();
        lettersThatBreakOff();
        lettersThatAreWrong();
        digitsOfPages();
        digitsOfNumbers();
        ninetySixLetters();
        noStatement();
        firstFault();
        statementsAtTheirBounds();
        statementsBehindOthers();
        statementsByWhichNothingIsLikely();
        faultsChangeNothing();
        draws();
        drawsByChances();
        evenings();
        due.end();
    }

    private static void pagesAtFirst() {
        WhereIGotTo x = new WhereIGotTo();
        due.is("pages at first", x.count(0), 8);
        due.is("the last page at first", x.page(7, 0), 1);
        due.is("one beyond it", x.page(8, 0), -1);
        due.is("the first page", x.page(0, 0), 1);
        due.is("one ahead of it", x.page(-1, 0), -1);
        due.is("may at first", x.may(), 0xff);
    }

    private static void pagesOfABook() {
        String[] texts = {"n0;", "n00;", "n1;", "n01;", "n2;", "n02;", "n9;", "n10;", "n23;", "n24;", "n25;", "n99;"};
        int[] pages = {0, 0, 0, 0, 2, 2, 9, 10, 23, 24, 0, 0};
        for (int i = 0; i < texts.length; i++) {
            WhereIGotTo x = new WhereIGotTo();
            boolean isFault = pages[i] == 0;
            int n = isFault ? 8 : pages[i];
            due.is(texts[i], Told.tell(x, texts[i]), isFault ? -2000 : 1);
            due.is(texts[i] + " pages", x.count(0), n);
            due.is(texts[i] + " the last page", x.page(n - 1, 0), 1);
            due.is(texts[i] + " one beyond it", x.page(n, 0), -1);
            due.is(texts[i] + " may", x.may(), (1 << n) - 1);
        }
    }

    private static void pagesThatAreNoMore() {
        WhereIGotTo x = Told.book("n24;c239;s238;r237;h23;c009;l231;");
        due.is("fewer pages", Told.tell(x, "n2;"), 1);
        due.is("no chances of pages that are no more", x.count(2), 2);
        due.is("no secrets of them", x.count(4), 0);
        due.is("no chapters of them", x.count(3), 1);
        due.is("no looks at them", x.count(1), 0);
        due.is("none of them may be", x.may(), 3);
        due.is("none of them is likeliest", x.best(0), 0);
        due.is("none of them is last", x.best(2), 1);
        due.is("as many pages again", Told.tell(x, "n24;"), 1);
        for (int what = 0; what <= 3; what++) {
            due.is("they are as at first, " + what, x.page(23, what), what == 0 ? 1 : 0);
        }
        due.is("so is the first", x.page(0, 0), 1);
    }

    private static void figuresOfAPage() {
        for (int what = 0; what <= 2; what++) {
            WhereIGotTo x = new WhereIGotTo();
            int atFirst = what == 0 ? 1 : 0;
            due.is("set to the greatest, " + what, x.set(7, what, 9), atFirst);
            due.is("set to the least, " + what, x.set(7, what, 0), 9);
            due.is("one below, " + what, x.set(7, what, -1), -4);
            due.is("one above, " + what, x.set(7, what, 10), -6);
            due.is("stays, " + what, x.page(7, what), 0);
            due.is("of another page, " + what, x.page(6, what), atFirst);
            String letter = "csr".substring(what, what + 1);
            due.is("told the greatest, " + what, Told.tell(x, letter + "079;"), 1);
            due.is("is the greatest, " + what, x.page(7, what), 9);
            due.is("told the least, " + what, Told.tell(x, letter + "070;"), 1);
            due.is("is the least, " + what, x.page(7, what), 0);
        }
    }

    private static void chapters() {
        WhereIGotTo x = Told.book("n24;");
        due.is("a chapter begins on page 0", x.page(0, 3), 1);
        for (int page = 1; page < 24; page++) {
            due.is("none begins on page " + page, x.page(page, 3), 0);
        }
        due.is("chapter of page 0", x.chapter(0), -1);
        due.is("it begins still", x.page(0, 3), 1);
        due.is("chapter of page 1", x.chapter(1), 1);
        due.is("chapter of the last page", x.chapter(23), 1);
        due.is("chapter of the one beyond", x.chapter(24), -1);
        due.is("chapter of none", x.chapter(-1), -1);
        due.is("chapter of page 32, no other's", x.chapter(32), -1);
        due.is("chapters", x.count(3), 3);
        due.is("chapter of the last page, not any more", x.chapter(23), 0);
        due.is("chapters", x.count(3), 2);
        due.is("book: page 0", Told.tell(x, "h00;"), -2000);
        due.is("book: the last page", Told.tell(x, "h23;"), 1);
        due.is("book: told again", Told.tell(x, "h23;h01;"), 2);
        due.is("chapters, page 0 alone", x.count(3), 1);
    }

    private static void kindsAndFigures() {
        WhereIGotTo x = new WhereIGotTo();
        due.is("kind at first", x.count(8), 0);
        due.is("figure at first", x.count(9), 0);
        due.is("least kind, greatest figure", x.knower(0, 9), 0);
        due.is("greatest kind, least figure", x.knower(5, 0), 9);
        due.is("greatest kind and figure", x.knower(5, 9), 50);
        due.is("kind one above", x.knower(6, 9), -2);
        due.is("kind one below", x.knower(-1, 0), -2);
        due.is("figure one above", x.knower(5, 10), -6);
        due.is("figure one below", x.knower(0, -1), -4);
        due.is("as it was", 10 * x.count(8) + x.count(9), 59);
        due.is("told the least", Told.tell(x, "k00;"), 1);
        due.is("is the least", 10 * x.count(8) + x.count(9), 0);
        due.is("told the greatest", Told.tell(x, "k59;"), 1);
        due.is("is the greatest", 10 * x.count(8) + x.count(9), 59);
        due.is("told a kind above", Told.tell(x, "k60;"), -2000);
        due.is("told the kind 9", Told.tell(x, "k99;"), -2000);
        due.is("is as it was", 10 * x.count(8) + x.count(9), 59);
    }

    private static void looks() {
        WhereIGotTo x = new WhereIGotTo();
        due.is("looks at first", x.count(1), 0);
        for (int i = 1; i <= 8; i++) {
            due.is("look " + i, x.look(i - 1, 1), i);
        }
        due.is("the ninth", x.look(7, 1), -6);
        due.is("still eight", x.count(1), 8);
        due.is("the eighth", x.looked(7), 71);
        due.is("the ninth is none", x.looked(8), -1);
        due.is("one less", x.undo(), 7);
        due.is("the eighth again", x.look(0, 1), 8);
        due.is("it is the new one", x.looked(7), 1);
        due.is("eight in a book", Told.tell(new WhereIGotTo(), "l011;".repeat(8)), 8);
        due.is("nine in a book", Told.tell(new WhereIGotTo(), "l011;".repeat(9)), -2040);
        due.is("one more than eight, by a book", Told.tell(x, "l071;"), -2000);
        x.undo();
        due.is("two more than seven", Told.tell(x, "l071;l071;"), -2005);
        due.is("still seven", x.count(1), 7);
        due.is("one more than seven", Told.tell(x, "l071;"), 1);
        due.is("eight", x.count(1), 8);
    }

    /** E by FIGURE, and then by how far the page is: to the LAST, and above it to the one behind the LAST. */
    private static void errorsAre(int kind, String... errors) {
        for (int figure = 0; figure <= 9; figure++) {
            WhereIGotTo x = Told.book("n24;k" + kind + figure + ";");
            for (int far = 0; far < 12; far++) {
                int e = errors[figure].charAt(far) - '0';
                String label = "kind " + kind + " figure " + figure + " far " + far;
                due.is(label + " below", x.tenths(11 - far, 11), 10 - e);
                due.is(label + " above", x.tenths(12 + far, 11), e);
            }
        }
    }

    private static void errorsOfTheUnsure() {
        errorsAre(1,
            "000000000000", "100000000000", "210000000000", "321000000000", "432100000000",
            "443210000000", "444321000000", "444432100000", "444443210000", "444444321000");
        WhereIGotTo x = Told.book("n24;k19;");
        due.is("unsure, as far as can be below", x.tenths(0, 23), 10);
        due.is("unsure, as far as can be above", x.tenths(23, 0), 0);
        due.is("unsure, of the last page from it", x.tenths(23, 23), 6);
        due.is("unsure, of page 0 from it", x.tenths(0, 0), 6);
    }

    private static void errorsOfTheFresh() {
        errorsAre(2,
            "000000000000", "000000000000", "100000000000", "110000000000", "211000000000",
            "221100000000", "222110000000", "222211000000", "222221100000", "222222110000");
    }

    private static void errorsOfTheVague() {
        errorsAre(3,
            "111111111111", "211111111111", "321111111111", "432111111111", "543211111111",
            "554321111111", "555432111111", "555543211111", "555554321111", "555555432111");
        WhereIGotTo x = Told.book("n24;k39;");
        due.is("vague, as far as can be below", x.tenths(0, 23), 9);
        due.is("vague, as far as can be above", x.tenths(23, 0), 1);
    }

    private static void knowersAndChildren() {
        errorsAre(0,
            "000000000000", "000000000000", "000000000000", "000000000000", "000000000000",
            "000000000000", "000000000000", "000000000000", "000000000000", "000000000000");
        for (int figure = 0; figure <= 9; figure++) {
            WhereIGotTo x = Told.book("n24;k4" + figure + ";");
            for (int page = 0; page < 24; page++) {
                due.is("a child of page " + page, x.tenths(page, 11), 10);
            }
            due.is("a child at the front of the last page", x.tenths(23, 0), 10);
        }
    }

    private static void sleepers() {
        String[] fresh = {"000000000000", "221100000000", "222222110000"};
        int[] figures = {0, 5, 9};
        for (int i = 0; i < figures.length; i++) {
            WhereIGotTo x = Told.book("n24;k5" + figures[i] + ";");
            for (int far = 0; far < 12; far++) {
                int e = fresh[i].charAt(far) - '0';
                String label = "asleep, figure " + figures[i] + " far " + far;
                due.is(label + " below", x.tenths(11 - far, 11), far <= 2 ? 5 : 10 - e);
                due.is(label + " above", x.tenths(12 + far, 11), e);
            }
        }
        WhereIGotTo x = Told.book("n24;k50;");
        due.is("asleep on page 0, of it", x.tenths(0, 0), 5);
        due.is("asleep on page 0, of 1", x.tenths(1, 0), 0);
        due.is("asleep on page 1, of 0", x.tenths(0, 1), 5);
        due.is("asleep on page 2, of 0", x.tenths(0, 2), 5);
        due.is("asleep on page 3, of 0", x.tenths(0, 3), 10);
        due.is("asleep on the last page, of it", x.tenths(23, 23), 5);
        due.is("asleep on the last page, of the third ahead", x.tenths(20, 23), 10);
    }

    private static WhereIGotTo greatestParts() {
        WhereIGotTo x = Told.book("n24;k40;");
        for (int page = 0; page < 24; page++) {
            x.set(page, 0, 9);
            x.set(page, 1, 9);
            x.set(page, 2, 9);
        }
        for (int i = 0; i < 8; i++) {
            x.look(i, 1);
        }
        return x;
    }

    private static void is(String call, long above, long below, long wantAbove, long wantBelow) {
        due.isFraction(call, above, below, wantAbove, wantBelow);
    }

    /** Each part is 9 times 10 to the 8th, all together are more than an int holds. */
    private static void partsAtTheirGreatest() {
        WhereIGotTo x = greatestParts();
        is("greatest, a page", x.likely(23, 0, 0), x.likely(23, 0, 1), 1, 24);
        is("greatest, all from one on", x.likely(1, 1, 0), x.likely(1, 1, 1), 23, 24);
        is("greatest, would", x.likely(0, 2, 0), x.likely(0, 2, 1), 1, 1);
        due.is("greatest, likeliest", x.best(0), 0);
        due.is("greatest, split", x.best(3), 1);
        // 8 of 24 pages need 4 looks, as 16 leaves need; 16 more at the fifth: (8 times 4 and 16 times 5) of 24.
        is("greatest, mean", x.mean(0, 0), x.mean(0, 1), 14, 3);
        is("greatest, cost", x.mean(1, 0), x.mean(1, 1), 69, 8);
        due.is("greatest, dear", x.dear(), 9);
        is("greatest, front", x.readers(0, 0, 0), x.readers(0, 0, 1), 299, 24);
        is("greatest, secrets from the back", x.readers(5, 1, 0), x.readers(5, 1, 1), 207, 2);
        is("greatest, stops", x.stops(23, 0), x.stops(23, 1), 253, 8);
        is("greatest, opens", x.opens(3, 3, 0), x.opens(3, 3, 1), 14, 221);
        is("greatest, mark", x.mark(1, 0), x.mark(1, 1), 21, 5);
        is("greatest, crumb", x.crumb(23, 0), x.crumb(23, 1), 1, 2);
        due.is("greatest, all chances", x.count(2), 216);
        due.is("greatest, all secrets", x.count(4), 216);
    }

    /** A page without a part, and one that has all. */
    private static void partsOfNothing() {
        WhereIGotTo x = Told.book("n3;c000;c020;");
        is("nothing", x.likely(0, 0, 0), x.likely(0, 0, 1), 0, 1);
        is("all", x.likely(1, 0, 0), x.likely(1, 0, 1), 1, 1);
        is("nothing from the last on", x.likely(2, 1, 0), x.likely(2, 1, 1), 0, 1);
        is("all from the first on", x.likely(0, 1, 0), x.likely(0, 1, 1), 1, 1);
        is("would never", x.likely(2, 2, 0), x.likely(2, 2, 1), 0, 1);
        is("would always", x.likely(1, 2, 0), x.likely(1, 2, 1), 1, 1);
        due.is("may be one alone", x.may(), 2);
        due.is("pages of may", x.count(5), 1);
    }

    private static int answerTo(String letters) {
        return Told.tell(new WhereIGotTo(), letters);
    }

    private static final String[] STATEMENTS = {"n24;", "n2;", "c079;", "s079;", "r079;", "h07;", "k59;", "l071;"};

    private static void lettersThatBreakOff() {
        for (String statement : STATEMENTS) {
            due.is(statement, answerTo(statement), 1);
            due.is("behind another: " + statement, answerTo("h01;" + statement), 2);
            for (int end = 0; end < statement.length(); end++) {
                String front = statement.substring(0, end);
                due.is("breaks off: " + front, answerTo(front), -1000 - end);
                due.is("breaks off: h01;" + front, answerTo("h01;" + front), end == 0 ? 1 : -1004 - end);
            }
        }
    }

    private static String lettersAllowed(String statement, int place) {
        if (place == 0) {
            return "ncsrhkl";
        }
        if (place == statement.length() - 1) {
            return statement.equals("n2;") ? "0123456789;" : ";";
        }
        return statement.equals("n24;") && place == 2 ? "0123456789;" : "0123456789";
    }

    /** Every letter at every place of every statement: the place is told, if no book can go on with it. */
    private static void lettersThatAreWrong() {
        for (String statement : STATEMENTS) {
            for (int place = 0; place < statement.length(); place++) {
                String allowed = lettersAllowed(statement, place);
                for (char letter = 0; letter <= 255; letter++) {
                    String text = statement.substring(0, place) + letter;
                    boolean goesOn = allowed.indexOf(letter) >= 0;
                    int want = goesOn ? (letter == ';' ? 1 : -1001 - place) : -1000 - place;
                    due.is(text + " (" + (int) letter + ")", answerTo(text), want);
                    due.is("h01;" + text, answerTo("h01;" + text), want == 1 ? 2 : want - 4);
                }
            }
        }
    }

    private static void digitsOfPages() {
        due.is("n of one digit", answerTo("n3;"), 1);
        due.is("n of two digits", answerTo("n03;"), 1);
        due.is("n of three digits", answerTo("n003;"), -1003);
        due.is("n of no digit", answerTo("n;"), -1001);
        due.is("a page of one digit", answerTo("h7;"), -1002);
        due.is("a page of three digits", answerTo("h007;"), -1003);
        due.is("a chance of no digit", answerTo("c07;"), -1003);
        due.is("a chance of two digits", answerTo("c0711;"), -1004);
        due.is("a kind without a figure", answerTo("k5;"), -1002);
        due.is("a figure of two digits", answerTo("k510;"), -1003);
    }

    private static String two(int number) {
        return (number < 10 ? "0" : "") + number;
    }

    private static void digitsOfNumbers() {
        for (int page = 0; page < 24; page++) {
            for (int v = 0; v <= 9; v++) {
                String at = two(page) + v;
                WhereIGotTo x = Told.book("n24;c" + at + ";s" + at + ";r" + at + ";");
                due.is("c" + at, x.page(page, 0), v);
                due.is("s" + at, x.page(page, 1), v);
                due.is("r" + at, x.page(page, 2), v);
                due.is("all chances " + at, x.count(2), 23 + v);
                due.is("all secrets " + at, x.count(4), v);
            }
            WhereIGotTo x = Told.book("n24;l" + two(page) + "1;" + (page == 0 ? "" : "h" + two(page) + ";"));
            due.is("l" + two(page) + "1", x.looked(0), 10 * page + 1);
            due.is("h" + two(page), x.page(page, 3), 1);
        }
        for (int number = 0; number <= 59; number++) {
            due.is("k" + two(number), Told.book("k" + two(number) + ";").knower(0, 0), number);
        }
        for (int number = 2; number <= 24; number++) {
            due.is("n" + two(number), Told.book("n" + two(number) + ";").count(0), number);
        }
    }

    private static void ninetySixLetters() {
        due.is("96 letters", answerTo("n2;".repeat(32)), 32);
        due.is("96 letters, the last lacks", answerTo("n2;".repeat(31) + "h01"), -1096);
        due.is("96 letters, the last is wrong", answerTo("n2;".repeat(31) + "n2x"), -1095);
        due.is("96 letters, the last statement is wrong", answerTo("n2;".repeat(31) + "n1;"), -2093);
        due.is("95 letters, one lacks", answerTo("n2;".repeat(31) + "n2"), -1095);
        WhereIGotTo x = new WhereIGotTo();
        Told.feed(x, "h01;h02;".repeat(12));
        due.is("letters", x.count(6), 96);
        due.is("the 97th", x.feed('x'), -6);
        due.is("letters", x.count(6), 96);
        due.is("it does not count", x.book(), 24);
        due.is("letters", x.count(6), 0);
        due.is("the first again", x.feed(';'), 1);
        due.is("the book of it", x.book(), -1000);
    }

    private static void noStatement() {
        WhereIGotTo x = new WhereIGotTo();
        due.is("no letters", x.book(), -1000);
        due.is("none again", x.book(), -1000);
        due.is("an end alone", Told.tell(x, ";"), -1000);
        due.is("two ends", Told.tell(x, "n2;;"), -1003);
        due.is("a book", Told.tell(x, "h01;"), 1);
        due.is("none behind it", x.book(), -1000);
    }

    private static void firstFault() {
        due.is("the first of two wrong letters", answerTo("n2x;h0x;"), -1002);
        due.is("the first of two wrong statements", answerTo("h01;n1;n25;"), -2004);
        due.is("a wrong letter behind a wrong statement", answerTo("n1;x"), -1003);
        due.is("what lacks behind a wrong statement", answerTo("n1;h01"), -1006);
        due.is("a wrong letter ahead of a wrong statement", answerTo("h0x;n1;"), -1002);
    }

    private static void statementsAtTheirBounds() {
        for (String letter : new String[] {"c", "s", "r", "l"}) {
            due.is("the last page: " + letter, answerTo(letter + "071;"), 1);
            due.is("one beyond it: " + letter, answerTo(letter + "081;"), -2000);
            due.is("far beyond it: " + letter, answerTo(letter + "991;"), -2000);
            due.is("of 24: " + letter, answerTo("n24;" + letter + "231;"), 2);
            due.is("beyond 24: " + letter, answerTo("n24;" + letter + "241;"), -2004);
            due.is("the first page: " + letter, answerTo(letter + "001;"), 1);
        }
        due.is("h of the last page", answerTo("h07;"), 1);
        due.is("h of one beyond it", answerTo("h08;"), -2000);
        due.is("h of page 1", answerTo("h01;"), 1);
        due.is("h of page 0", answerTo("h00;"), -2000);
        due.is("the greatest kind", answerTo("k59;"), 1);
        due.is("one beyond it", answerTo("k60;"), -2000);
        due.is("not known", answerTo("l010;"), 1);
        due.is("known", answerTo("l011;"), 1);
        due.is("no word", answerTo("l012;"), -2000);
        due.is("no word, either", answerTo("l019;"), -2000);
    }

    private static void statementsBehindOthers() {
        due.is("a page that is there", answerTo("n9;s081;"), 2);
        due.is("a page that is not there yet", answerTo("s081;n9;"), -2000);
        due.is("a page that is no more there", answerTo("n2;s021;"), -2003);
        WhereIGotTo full = Told.book("l011;".repeat(8));
        due.is("room behind an n", Told.tell(full, "n8;" + "l021;".repeat(8)), 9);
        due.is("the new looks", full.looked(7), 21);
        due.is("no room behind them", Told.tell(full, "n8;" + "l021;".repeat(9)), -2043);
        due.is("a word against it behind an n", answerTo("l071;n8;l010;"), 3);
        due.is("a chance told 0, and an n", answerTo("n2;c000;n2;c010;"), 4);
        due.is("a child who says no is none, but a vague one may", answerTo("k40;k30;l010;"), 3);
    }

    private static void statementsByWhichNothingIsLikely() {
        due.is("a look", answerTo("l000;"), -2000);
        due.is("a look against another", answerTo("l031;l030;"), -2005);
        due.is("a look beyond another", answerTo("l031;l040;"), 2);
        due.is("the last chance", answerTo("n2;c000;c010;"), -2008);
        due.is("the last chance by a look", answerTo("n2;l011;c010;"), -2008);
        due.is("a chance that is none by the look", answerTo("n2;l011;c000;"), 3);
        due.is("a knower", answerTo("k30;l010;l021;k00;"), -2014);
        due.is("a child", answerTo("l010;k40;"), -2005);
        due.is("no looks, no child needs a word", answerTo("k40;"), 1);
        due.is("a figure", answerTo("k12;l010;l021;k10;"), -2014);
        due.is("secrets and cracks of nothing", answerTo("n2;l011;s010;r010;"), 4);
    }

    private static void faultsChangeNothing() {
        WhereIGotTo x = Told.book("n3;c012;s013;r014;h02;k15;l011;");
        x.image();
        x.row(7);
        for (String text : new String[] {"n4;c019;s019;r019;h02;k59;l010;n1;", "n4;c019;s019;r019;h02;k59;l010;n4", ""}) {
            due.is(text, Told.tell(x, text) < 0 ? 1 : 0, 1);
            int[] counts = {3, 1, 4, 2, 3, 3, 0, 1, 1, 5, -9, 0, 0, 0, 0, 0, 0};
            for (int what = 0; what < counts.length; what++) {
                due.is(text + " count " + what, x.count(what), counts[what]);
            }
            for (int what = 0; what <= 2; what++) {
                due.is(text + " page", x.page(1, what), 2 + what);
            }
            due.is(text + " chapter", x.page(2, 3), 1);
            due.is(text + " look", x.looked(0), 11);
        }
    }

    /** The LAST of one evening: the one from the back looks at all pages from the last down to it. */
    private static int drawn(WhereIGotTo x, int z) {
        int looks = x.seeds(5, 1, z, 0);
        return looks < 23 ? 24 - looks : x.seeds(5, 1, z, 1) == 0 ? 1 : 0;
    }

    private static void draws() {
        WhereIGotTo x = Told.book("n24;s011;");
        // The seed becomes 12345, and 65535, 65536; the greatest int, and what is just below and at 32767 times 65536.
        due.is("z 0", drawn(x, 0), 0);
        due.is("draw 0 cut", drawn(x, -115164386), 0);
        due.is("draw 1", drawn(x, -404969853), 1);
        due.is("draw 32767, greatest", drawn(x, -1916945634), 7);
        due.is("draw 32766", drawn(x, -1571243234), 6);
        due.is("draw 32767, least", drawn(x, -1861048701), 7);
        // It wraps to numbers below 0, whose sign's bit is left out: -1, the least int, and 65535 and 65536 above that.
        due.is("draw of -1", drawn(x, 230538014), 7);
        due.is("draw of the least int", drawn(x, 2088216195), 0);
        due.is("draw of it and 65535", drawn(x, 2032319262), 0);
        due.is("draw of it and 65536", drawn(x, 1742513795), 1);
        due.is("z 1", drawn(x, 1), 14);
        due.is("z 2", drawn(x, 2), 20);
        due.is("z -1", drawn(x, -1), 17);
        due.is("the greatest z", drawn(x, Integer.MAX_VALUE), 17);
        due.is("the least z", drawn(x, Integer.MIN_VALUE), 0);
        due.is("one above the least z", drawn(x, Integer.MIN_VALUE + 1), 14);
        due.is("one below the greatest z", drawn(x, Integer.MAX_VALUE - 1), 11);
        // z 1 draws 14, 22, 9, 19, 19 and the greatest z 17, 17, 22, 6, 1; of each from the back 24 less it.
        due.is("one by one", x.seeds(5, 5, 1, 0), 10 + 2 + 15 + 5 + 5);
        due.is("one by one, from the greatest z", x.seeds(5, 5, Integer.MAX_VALUE, 0), 7 + 7 + 2 + 18 + 23);
    }

    private static void drawsByChances() {
        // 21 in all: 32767 makes 7, 32766 makes 6, 16838 (z 1) makes 17, 908 (z 2) makes 5.
        WhereIGotTo x = Told.book("n24;s011;c000;c015;c021;c030;c041;" + "c229;c239;");
        for (int page = 5; page < 22; page++) {
            x.set(page, 0, 0);
        }
        x.set(23, 0, 5);
        due.is("all chances", x.count(2), 21);
        due.is("below the chance of 1", drawn(x, 0), 1);
        due.is("the first that is not", drawn(x, 2), 2);
        due.is("a page without a chance is never drawn", drawn(x, -1571243234), 4);
        due.is("the first of 22", drawn(x, -1861048701), 22);
        due.is("of the last", drawn(x, 1), 23);
        WhereIGotTo one = Told.book("n24;s011;");
        for (int page = 0; page < 23; page++) {
            one.set(page, 0, page == 0 ? 1 : 0);
        }
        one.set(23, 0, 0);
        due.is("one chance alone, the greatest draw", drawn(one, -1916945634), 0);
        due.is("one chance alone, the least draw", drawn(one, 0), 0);
    }

    private static void evenings() {
        WhereIGotTo x = Told.book("n2;s011;c000;");
        // Always on page 1: each evening is one look, and nothing is given away.
        due.is("one evening", x.seeds(0, 1, 5, 0), 1);
        due.is("30 evenings", x.seeds(0, 30, 5, 0), 30);
        due.is("no evening", x.seeds(0, 0, 5, 0), -4);
        due.is("31 evenings", x.seeds(0, 31, 5, 0), -6);
        due.is("nothing given", x.seeds(0, 30, 5, 1), 0);
        Told.tell(x, "c001;c010;");
        due.is("one evening, given", x.seeds(5, 1, 5, 1), 1);
        due.is("30 evenings, given", x.seeds(5, 30, 5, 1), 30);
        due.is("refusals -4", x.count(14), 1);
        due.is("refusals -6", x.count(16), 1);
    }
}
