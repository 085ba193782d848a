/** Each promise by answers worked out by hand: ordinary calls, the edges that the document names, wrong calls. */
final class PromisesTest {
    private static final Due due = new Due("PromisesTest");
    private static final long NOBODY = 4000000000000000001L;
    private static final long OTHER = 4000000000000000002L;
    private static final long BELOW = 4000000000000000004L;
    private static final long ROOM = 4000000000000000006L;

    public static void main(String[] args) {
        newObject();
        feed();
        bookOfEachStatement();
        bookWithWrongLetters();
        bookWithWrongStatements();
        bookComesWholeOrNot();
        page();
        set();
        chapter();
        knower();
        tenthsOfKinds();
        tenthsRefused();
        look();
        looked();
        undo();
        likely();
        may();
        best();
        astray();
        worst();
        mean();
        first();
        dear();
        readerFromFrontAndBack();
        readerByHalves();
        readerByChapters();
        readersMeans();
        stop();
        stops();
        opens();
        mark();
        crumb();
        kinds();
        drops();
        row();
        judge();
        seeds();
        imageAndRestore();
        count();
        due.end();
    }

    private static int tell(WhereIGotTo x, String letters) {
        return Told.tell(x, letters);
    }

    private static WhereIGotTo told(String letters) {
        return Told.book(letters);
    }

    private static void newObject() {
        WhereIGotTo x = new WhereIGotTo();
        int[] counts = {8, 0, 8, 1, 0, 8, 0, 0, 0, 0};
        for (int what = 0; what < counts.length; what++) {
            due.is("1 count " + what, x.count(what), counts[what]);
        }
        for (int page = 0; page < 8; page++) {
            due.is("1 chance", x.page(page, 0), 1);
            due.is("1 secret", x.page(page, 1), 0);
            due.is("1 crack", x.page(page, 2), 0);
            due.is("1 chapter", x.page(page, 3), page == 0 ? 1 : 0);
            due.is("1 tenths", x.page(page, 4), page == 0 ? 0 : 10);
        }
        due.is("1 may", x.may(), 255);
        due.is("1 undo", x.undo(), -3);
        due.is("1 restore", x.restore(), -3);
    }

    private static void feed() {
        WhereIGotTo x = new WhereIGotTo();
        due.is("2 below", x.feed(-1), -4);
        due.is("2 above", x.feed(256), -6);
        due.is("2 far below", x.feed(Integer.MIN_VALUE), -4);
        due.is("2 far above", x.feed(Integer.MAX_VALUE), -6);
        for (int i = 1; i <= 96; i++) {
            due.is("2 feed", x.feed(i % 2 == 0 ? 0 : 255), i);
        }
        due.is("2 full", x.feed('n'), -6);
        due.is("2 full, below", x.feed(-5), -4);
        due.is("2 letters", x.count(6), 96);
        due.is("2 refusals -4", x.count(14), 3);
        due.is("2 refusals -6", x.count(16), 3);
        due.is("2 book of them", x.book(), -1000);
        due.is("2 none are left", x.count(6), 0);
        due.is("2 room again", x.feed('n'), 1);
    }

    private static void bookOfEachStatement() {
        WhereIGotTo x = new WhereIGotTo();
        due.is("3 book", tell(x, "n12;c037;s114;r005;h07;h08;h08;k29;l041;l110;"), 10);
        due.is("3 pages", x.count(0), 12);
        due.is("3 chance", x.page(3, 0), 7);
        due.is("3 secret", x.page(11, 1), 4);
        due.is("3 crack", x.page(0, 2), 5);
        due.is("3 chapter", x.page(7, 3), 1);
        due.is("3 chapter no more", x.page(8, 3), 0);
        due.is("3 kind", x.count(8), 2);
        due.is("3 figure", x.count(9), 9);
        due.is("3 first look", x.looked(0), 41);
        due.is("3 second look", x.looked(1), 110);
        due.is("3 letters", x.count(6), 0);
        due.is("3 n", tell(x, "n2;"), 1);
        due.is("3 pages", x.count(0), 2);
        due.is("3 no looks", x.count(1), 0);
        due.is("3 chances", x.count(2), 2);
        due.is("3 crack as at first", x.page(0, 2), 0);
        due.is("3 the knower is the same", x.count(8), 2);
        due.is("3 n04", tell(x, "n04;"), 1);
        due.is("3 pages", x.count(0), 4);
        due.is("3 n24", tell(x, "n24;h23;n24;"), 3);
        due.is("3 chapters as at first", x.count(3), 1);
        due.is("3 96 letters", tell(x, "s001;".repeat(18) + "h01;n9"), -1096);
        due.is("3 96 letters", tell(x, "s001;".repeat(18) + "n9;n8;"), 20);
    }

    private static void bookWithWrongLetters() {
        WhereIGotTo x = new WhereIGotTo();
        String[] texts = {
            "", ";", "x", "n", "n;", "n123;", "n1", "nx;", "c", "c01", "c01;", "c0123;", "c012", "s0a1;", "r;", "h1;",
            "h012;", "h01", "k1;", "k123;", "l01;", "l0111;", "n5;;", "n5;x", "n5;c", "n5; h01;", "N5;", "h01,", "n99;x",
            "k60;c0;"};
        int[] places = {
            0, 0, 0, 1, 1, 3, 2, 1, 1, 3, 3, 4, 4, 2, 1, 2,
            3, 3, 2, 3, 3, 4, 3, 3, 4, 3, 0, 3, 4,
            6};
        for (int i = 0; i < texts.length; i++) {
            due.is("3 " + texts[i], tell(x, texts[i]), -1000 - places[i]);
            due.is("3 letters no more", x.count(6), 0);
        }
        for (int what = 11; what <= 16; what++) {
            due.is("3 nothing is counted", x.count(what), 0);
        }
    }

    private static void bookWithWrongStatements() {
        WhereIGotTo x = new WhereIGotTo();
        String[] texts = {
            "n0;", "n1;", "n25;", "n5;n99;", "c080;", "c990;", "s081;", "r083;", "n3;s031;", "h00;", "h08;", "k60;",
            "k99;", "l080;", "l002;", "l009;", "h01;l000;", "l030;l051;", "n2;c000;c010;", "k49;l000;", "l030;k40;",
            "l011;".repeat(8) + "l011;", "n2;k13;l000;l011;k00;", "l041;c040;c050;c060;c070;", "n2;s015;h02;h00;"};
        int[] places = {
            0, 0, 0, 3, 0, 0, 0, 0, 3, 0, 0, 0,
            0, 0, 0, 0, 4, 5, 8, 4, 5,
            40, 17, 20, 8};
        for (int i = 0; i < texts.length; i++) {
            due.is("3 " + texts[i], tell(x, texts[i]), -2000 - places[i]);
            due.is("3 pages as they were", x.count(0), 8);
            due.is("3 looks as they were", x.count(1), 0);
            due.is("3 kind as it was", x.count(8), 0);
        }
        for (int what = 11; what <= 16; what++) {
            due.is("3 nothing is counted", x.count(what), 0);
        }
    }

    private static void bookComesWholeOrNot() {
        WhereIGotTo x = told("n9;c015;s026;r037;h04;k12;l051;");
        due.is("3 fault", tell(x, "c012;s023;r034;h04;h05;k34;l061;n5;n1;"), -2035);
        due.is("3 pages", x.count(0), 9);
        due.is("3 chance", x.page(1, 0), 5);
        due.is("3 secret", x.page(2, 1), 6);
        due.is("3 crack", x.page(3, 2), 7);
        due.is("3 chapter", x.page(4, 3), 1);
        due.is("3 no chapter", x.page(5, 3), 0);
        due.is("3 knower", 10 * x.count(8) + x.count(9), 12);
        due.is("3 looks", x.count(1), 1);
        due.is("3 look", x.looked(0), 51);
        due.is("3 on top of what there is", tell(x, "l050;"), 1);
        due.is("3 looks", x.count(1), 2);
    }

    private static void page() {
        WhereIGotTo x = told("n10;c043;s042;r049;h04;k13;");
        due.is("4 chance", x.page(4, 0), 3);
        due.is("4 secret", x.page(4, 1), 2);
        due.is("4 crack", x.page(4, 2), 9);
        due.is("4 chapter", x.page(4, 3), 1);
        due.is("4 chapter of 0", x.page(0, 3), 1);
        due.is("4 no chapter", x.page(5, 3), 0);
        due.is("4 tenths for page 1 from 0", x.page(0, 4), 3);
        due.is("4 tenths for page 1 from 1", x.page(1, 4), 7);
        due.is("4 tenths for page 1 from 3", x.page(3, 4), 9);
        due.is("4 tenths for page 1 from 9", x.page(9, 4), 10);
        due.is("4 no page", x.page(10, 0), -1);
        due.is("4 no page, nor what", x.page(-1, 9), -1);
        due.is("4 what", x.page(4, 5), -2);
        due.is("4 what", x.page(4, -1), -2);
        due.is("4 refusals -1", x.count(11), 2);
        due.is("4 refusals -2", x.count(12), 2);
    }

    private static void set() {
        WhereIGotTo x = told("n3;");
        due.is("5 chance", x.set(0, 0, 9), 1);
        due.is("5 chance again", x.set(0, 0, 4), 9);
        due.is("5 secret", x.set(1, 1, 9), 0);
        due.is("5 secret again", x.set(1, 1, 0), 9);
        due.is("5 crack", x.set(2, 2, 3), 0);
        due.is("5 crack stands", x.page(2, 2), 3);
        due.is("5 no page", x.set(3, 3, -1), -1);
        due.is("5 no page", x.set(-1, 0, 0), -1);
        due.is("5 what", x.set(0, 3, -1), -2);
        due.is("5 what", x.set(0, -1, 10), -2);
        due.is("5 below", x.set(0, 0, -1), -4);
        due.is("5 above", x.set(0, 0, 10), -6);
        due.is("5 chance is as it was", x.page(0, 0), 4);
        due.is("5 look", x.look(2, 1), 1);
        due.is("5 nothing likely", x.set(2, 0, 0), -3);
        due.is("5 chance is as it was", x.page(2, 0), 1);
        due.is("5 others may be 0", x.set(0, 0, 0), 4);
        due.is("5 secrets may be 0 always", x.set(2, 1, 0), 0);
        due.is("5 refusals -3", x.count(13), 1);
    }

    private static void chapter() {
        WhereIGotTo x = new WhereIGotTo();
        due.is("6 begins", x.chapter(3), 1);
        due.is("6 begins", x.chapter(7), 1);
        due.is("6 chapters", x.count(3), 3);
        due.is("6 begins no more", x.chapter(3), 0);
        due.is("6 chapters", x.count(3), 2);
        due.is("6 page 0", x.chapter(0), -1);
        due.is("6 no page", x.chapter(8), -1);
        due.is("6 no page", x.chapter(-1), -1);
        due.is("6 page 0 begins still", x.page(0, 3), 1);
        due.is("6 refusals", x.count(11), 3);
    }

    private static void knower() {
        WhereIGotTo x = new WhereIGotTo();
        due.is("7 knower", x.knower(1, 7), 0);
        due.is("7 knower", x.knower(5, 0), 17);
        due.is("7 knower", x.knower(0, 9), 50);
        due.is("7 knower", x.knower(3, 9), 9);
        due.is("7 kind", x.knower(6, -1), -2);
        due.is("7 kind", x.knower(-1, 10), -2);
        due.is("7 below", x.knower(0, -1), -4);
        due.is("7 above", x.knower(0, 10), -6);
        due.is("7 look", x.look(6, 1), 1);
        due.is("7 look", x.look(2, 0), 2);
        due.is("7 nothing likely", x.knower(0, 0), -3);
        due.is("7 nothing likely", x.knower(1, 1), -3);
        due.is("7 as he was", 10 * x.count(8) + x.count(9), 39);
        due.is("7 likely with more doubt", x.knower(1, 4), 39);
        due.is("7 a child", x.knower(4, 4), -3);
        due.is("7 refusals -3", x.count(13), 3);
    }

    private static void tenthsRow(WhereIGotTo x, int last, int... want) {
        for (int page = 0; page < want.length; page++) {
            due.is("8 kind " + x.count(8) + " figure " + x.count(9) + " page " + page, x.tenths(page, last), want[page]);
        }
    }

    private static void tenthsOfKinds() {
        WhereIGotTo x = told("n11;");
        x.knower(0, 9);
        tenthsRow(x, 4, 10, 10, 10, 10, 10, 0, 0, 0, 0, 0, 0);
        x.knower(1, 0);
        tenthsRow(x, 4, 10, 10, 10, 10, 10, 0, 0, 0, 0, 0, 0);
        x.knower(1, 2);
        tenthsRow(x, 4, 10, 10, 10, 9, 8, 2, 1, 0, 0, 0, 0);
        x.knower(1, 6);
        tenthsRow(x, 5, 9, 8, 7, 6, 6, 6, 4, 4, 4, 3, 2);
        x.knower(2, 3);
        tenthsRow(x, 4, 10, 10, 10, 9, 9, 1, 1, 0, 0, 0, 0);
        x.knower(2, 9);
        tenthsRow(x, 4, 8, 8, 8, 8, 8, 2, 2, 2, 2, 2, 2);
        x.knower(3, 0);
        tenthsRow(x, 4, 9, 9, 9, 9, 9, 1, 1, 1, 1, 1, 1);
        x.knower(3, 2);
        tenthsRow(x, 4, 9, 9, 9, 8, 7, 3, 2, 1, 1, 1, 1);
        x.knower(3, 5);
        tenthsRow(x, 4, 8, 7, 6, 5, 5, 5, 5, 4, 3, 2, 1);
        x.knower(4, 9);
        tenthsRow(x, 4, 10, 10, 10, 10, 10, 10, 10, 10, 10, 10, 10);
        x.knower(5, 7);
        tenthsRow(x, 5, 9, 9, 8, 5, 5, 5, 2, 2, 2, 2, 1);
        x.knower(5, 0);
        tenthsRow(x, 1, 5, 5, 0, 0, 0, 0, 0, 0, 0, 0, 0);
    }

    private static void tenthsRefused() {
        WhereIGotTo x = told("n5;");
        due.is("8 no page", x.tenths(5, 0), -1);
        due.is("8 no page", x.tenths(-1, 0), -1);
        due.is("8 no last", x.tenths(0, 5), -1);
        due.is("8 no last", x.tenths(4, -1), -1);
        due.is("8 refusals once each", x.count(11), 4);
    }

    private static void look() {
        WhereIGotTo x = new WhereIGotTo();
        due.is("9 no page", x.look(8, 2), -1);
        due.is("9 no page", x.look(-1, 0), -1);
        due.is("9 said", x.look(0, 2), -2);
        due.is("9 said", x.look(0, -1), -2);
        due.is("9 page 0 is always known", x.look(0, 0), -3);
        for (int i = 1; i <= 7; i++) {
            due.is("9 look", x.look(i / 2, 1), i);
        }
        due.is("9 against it", x.look(3, 0), -3);
        due.is("9 looks are as they were", x.count(1), 7);
        due.is("9 look", x.look(7, 0), 8);
        due.is("9 no room", x.look(3, 0), -6);
        due.is("9 said first", x.look(3, 5), -2);
        due.is("9 may", x.may(), 0b1111000);
        due.is("9 refusals -3", x.count(13), 2);
        due.is("9 refusals -6", x.count(16), 1);
    }

    private static void looked() {
        WhereIGotTo x = told("n24;l231;l191;");
        due.is("10 looked", x.looked(0), 231);
        due.is("10 looked", x.looked(1), 191);
        due.is("10 none", x.looked(2), -1);
        due.is("10 none", x.looked(-1), -1);
        x.undo();
        due.is("10 none any more", x.looked(1), -1);
        x.knower(1, 3);
        x.look(20, 0);
        due.is("10 not known", x.looked(1), 200);
        due.is("10 refusals", x.count(11), 3);
    }

    private static void undo() {
        WhereIGotTo x = told("l031;l050;");
        due.is("11 may", x.may(), 0b11000);
        due.is("11 undo", x.undo(), 1);
        due.is("11 the last is no more", x.may(), 0b11111000);
        due.is("11 undo", x.undo(), 0);
        due.is("11 none", x.undo(), -3);
        due.is("11 may", x.may(), 255);
        due.is("11 refusals", x.count(13), 1);
    }

    private static void likelyIs(WhereIGotTo x, int page, int what, long above, long below) {
        due.isFraction("12 likely " + page + " " + what, x.likely(page, what, 0), x.likely(page, what, 1), above, below);
    }

    private static void likely() {
        WhereIGotTo x = told("n4;c012;c023;c034;");
        likelyIs(x, 1, 0, 1, 5);
        likelyIs(x, 2, 1, 7, 10);
        likelyIs(x, 1, 2, 9, 10);
        x.look(2, 1);
        likelyIs(x, 0, 0, 0, 1);
        likelyIs(x, 2, 0, 3, 7);
        likelyIs(x, 3, 1, 4, 7);
        likelyIs(x, 0, 1, 1, 1);
        likelyIs(x, 3, 2, 4, 7);
        likelyIs(x, 0, 2, 1, 1);
        WhereIGotTo unsure = told("n3;k12;l011;");
        likelyIs(unsure, 0, 0, 2, 19);
        likelyIs(unsure, 1, 0, 8, 19);
        likelyIs(unsure, 1, 1, 17, 19);
        likelyIs(unsure, 2, 2, 9, 19);
        due.is("12 no page", x.likely(4, 3, 0), NOBODY);
        due.is("12 no page", x.likely(-1, 0, 0), NOBODY);
        due.is("12 what", x.likely(0, 3, 0), OTHER);
        due.is("12 what", x.likely(0, -1, 0), OTHER);
        due.is("12 part", x.likely(0, 0, 2), OTHER);
        due.is("12 part", x.likely(0, 0, -1), OTHER);
        due.is("12 refusals -1", x.count(11), 2);
        due.is("12 refusals -2", x.count(12), 4);
        WhereIGotTo many = told("n2;c009;c019;k30;l001;l001;l001;l001;l001;l001;l001;l010;");
        likelyIs(many, 0, 0, 9, 10);
    }

    private static void may() {
        WhereIGotTo x = told("n24;");
        due.is("13 may", x.may(), 0xffffff);
        x.set(5, 0, 0);
        x.look(3, 1);
        x.look(9, 0);
        due.is("13 may", x.may(), 0b111011000);
        due.is("13 pages of may", x.count(5), 5);
    }

    private static void best() {
        WhereIGotTo x = told("n6;c000;c015;c025;c050;");
        due.is("14 likeliest, of several the least", x.best(0), 1);
        due.is("14 from", x.best(1), 1);
        due.is("14 to", x.best(2), 4);
        due.is("14 split", x.best(3), 2);
        due.is("14 what", x.best(4), -2);
        due.is("14 what", x.best(-1), -2);
        due.is("14 refusals", x.count(12), 2);
        WhereIGotTo eight = new WhereIGotTo();
        due.is("14 from the first", eight.best(1), 0);
        due.is("14 to the last", eight.best(2), 7);
        due.is("14 to the first, too", told("l010;").best(2), 0);
        WhereIGotTo fewer = told("n24;c239;n3;");
        due.is("14 pages that are no more", fewer.best(2), 2);
        due.is("14 split without them", fewer.best(3), 1);
        WhereIGotTo three = told("n3;");
        due.is("14 split, of several the least", three.best(3), 1);
        WhereIGotTo unsure = told("n3;k12;l011;");
        due.is("14 likeliest", unsure.best(0), 2);
        due.is("14 split as he is", unsure.best(3), 2);
        WhereIGotTo child = told("k40;");
        due.is("14 split of a child", child.best(3), 1);
    }

    private static void astray() {
        WhereIGotTo x = new WhereIGotTo();
        due.is("15 known", x.astray(3, 1), 7);
        due.is("15 not known", x.astray(3, 0), 248);
        due.is("15 all", x.astray(0, 0), 255);
        due.is("15 none", x.astray(0, 1), 0);
        x.set(1, 0, 0);
        due.is("15 of may alone", x.astray(3, 1), 5);
        x.knower(3, 0);
        due.is("15 of one who is vague", x.astray(3, 1), 0);
        x.knower(4, 0);
        due.is("15 of a child", x.astray(3, 0), 253);
        x.knower(5, 0);
        due.is("15 of one asleep", x.astray(3, 0), 0b11000000);
        due.is("15 no page", x.astray(8, 2), -1);
        due.is("15 no page", x.astray(-1, 0), -1);
        due.is("15 said", x.astray(0, 2), -2);
        due.is("15 said", x.astray(0, -1), -2);
        WhereIGotTo full = told("l031;".repeat(8));
        due.is("15 with 8 looks", full.astray(5, 1), 0b11000);
        due.is("15 nothing changes", full.count(1), 8);
    }

    private static void worst() {
        WhereIGotTo x = new WhereIGotTo();
        int[] worst = {0, 0, 1, 2, 2, 3, 3, 3, 3, 4};
        for (int pages = 2; pages <= 9; pages++) {
            tell(x, "n" + pages + ";");
            due.is("16 worst of " + pages, x.worst(), worst[pages]);
        }
        x.set(4, 0, 0);
        due.is("16 others between are none", x.worst(), 3);
        x.look(8, 1);
        due.is("16 one page alone", x.worst(), 0);
        tell(x, "n17;k49;");
        due.is("16 as if he were a knower", x.worst(), 5);
    }

    private static void meanIs(WhereIGotTo x, int what, long above, long below) {
        due.isFraction("17 mean " + what, x.mean(what, 0), x.mean(what, 1), above, below);
    }

    private static void mean() {
        WhereIGotTo x = told("n5;c010;c023;c035;c049;");
        meanIs(x, 0, 31, 18);
        meanIs(told("n3;"), 0, 5, 3);
        meanIs(told("n3;k40;"), 0, 5, 3);
        meanIs(told("n3;l021;"), 0, 0, 1);
        meanIs(told("n3;s011;s025;"), 1, 2, 1);
        meanIs(told("n3;c003;c011;c022;s014;s027;"), 1, 19, 6);
        meanIs(told("n4;c010;s013;s021;s039;"), 1, 10, 3);
        meanIs(told("n3;s011;s025;l021;"), 1, 0, 1);
        due.is("17 what", x.mean(2, 0), OTHER);
        due.is("17 what", x.mean(-1, 0), OTHER);
        due.is("17 part", x.mean(0, 2), OTHER);
        due.is("17 part", x.mean(0, -1), OTHER);
        due.is("17 refusals", x.count(12), 4);
    }

    private static void first() {
        WhereIGotTo x = told("n5;c010;c023;c035;c049;");
        due.is("18 first", x.first(0), 4);
        due.is("18 first, of several the least", told("n3;").first(0), 1);
        due.is("18 first behind what can't be", told("n8;l051;").first(0), 6);
        due.is("18 safe", told("n3;s011;s025;").first(1), 1);
        due.is("18 safe, where less is given away", told("n4;c010;s013;s021;").first(1), 2);
        safeParts();
        WhereIGotTo sure = told("l031;l040;");
        due.is("18 none needs to be", sure.first(0), -9);
        due.is("18 none needs to be", sure.first(1), -9);
        due.is("18 what", x.first(2), -2);
        due.is("18 what", x.first(-1), -2);
        due.is("18 refusals", x.count(12), 2);
        due.is("18 no refusals", sure.count(12), 0);
    }

    /** Where nothing is below a page that may be the last, or nothing from it on, a look there is none. */
    private static void safeParts() {
        due.is("18 safe, nothing below the first", told("l011;").first(1), 2);
        due.is("18 safe, nothing below several", told("n8;s011;l051;").first(1), 6);
        due.is("18 safe, no chances at the front", told("n5;c000;c010;").first(1), 3);
        due.is("18 safe, its own secret counts not below itself", told("n5;s029;l021;").first(1), 3);
        due.is("18 safe, two pages alone", told("n5;s049;l031;").first(1), 4);
        // Of pages 3 to 5: 4 first gives away 2 and then 1 (of three); 5 first 1 twice, and then 2.
        due.is("18 safe, behind a front that can't be", told("n6;s042;s051;l031;").first(1), 4);
        due.is("18 safe, in a gap", told("n6;c010;c020;c030;s011;s024;s041;s051;").first(1), 3);
        due.is("18 safe, in a gap behind such a front", told("n6;c000;c020;c030;s024;s032;s044;").first(1), 3);
        due.is("18 safe, nothing from the last on", told("n6;s019;l020;").first(1), 1);
        due.is("18 first, nothing below the first", told("l011;").first(0), 4);
    }

    private static void dear() {
        due.is("19 nothing", new WhereIGotTo().dear(), 0);
        due.is("19 the last look alone", told("n3;s011;s025;").dear(), 5);
        due.is("19 from the front", told("n4;s013;s024;s035;").dear(), 5);
        due.is("19 where less is given away", told("n4;c010;s013;s021;s030;").dear(), 1);
        due.is("19 what can't be gives nothing away", told("n4;c000;s019;s022;s031;").dear(), 2);
        due.is("19 sure", told("n4;s019;s029;s039;l031;").dear(), 0);
    }

    private static void readerIs(WhereIGotTo x, int kind, int last, int looks, int secrets) {
        due.is("20 reader " + kind + " " + last + " looks", x.reader(kind, last, 0), looks);
        due.is("20 reader " + kind + " " + last + " secrets", x.reader(kind, last, 1), secrets);
    }

    private static void readerFromFrontAndBack() {
        WhereIGotTo x = told("n6;s011;s022;s033;s044;s055;k49;");
        readerIs(x, 0, 0, 1, 1);
        readerIs(x, 0, 3, 4, 4);
        readerIs(x, 0, 4, 5, 5);
        readerIs(x, 0, 5, 5, 0);
        readerIs(x, 5, 0, 5, 15);
        readerIs(x, 5, 1, 5, 14);
        readerIs(x, 5, 3, 3, 9);
        readerIs(x, 5, 5, 1, 0);
        due.is("20 kind", x.reader(6, 0, 0), -2);
        due.is("20 kind", x.reader(-1, 9, 0), -2);
        due.is("20 what", x.reader(0, 9, 2), -2);
        due.is("20 what", x.reader(0, 0, -1), -2);
        due.is("20 no page", x.reader(0, 6, 0), -1);
        due.is("20 no page", x.reader(5, -1, 1), -1);
        due.is("20 refusals -1", x.count(11), 2);
        due.is("20 refusals -2", x.count(12), 4);
    }

    private static void readerByHalves() {
        WhereIGotTo x = told("s011;s022;s043;s064;");
        readerIs(x, 1, 0, 3, 6);
        readerIs(x, 1, 3, 3, 3);
        readerIs(x, 1, 7, 3, 0);
        // A shy one looks at 1, for the half 4 has a secret, then at 5 and 7, which have none.
        readerIs(x, 3, 0, 1, 1);
        readerIs(x, 3, 7, 3, 0);
        // A bold one looks at 6, 5, 4, 3, 2, 1.
        readerIs(x, 4, 0, 6, 10);
        readerIs(x, 4, 7, 2, 0);
        WhereIGotTo shy = told("n6;s031;");
        readerIs(shy, 3, 5, 3, 0);
        WhereIGotTo heavy = told("n4;c039;");
        readerIs(heavy, 1, 3, 1, 0);
        readerIs(heavy, 1, 0, 3, 0);
        WhereIGotTo sure = told("n4;l031;s029;");
        readerIs(sure, 1, 0, 0, 0);
        readerIs(sure, 4, 0, 0, 0);
        WhereIGotTo halves = told("n6;c000;c010;c040;c050;s039;");
        readerIs(halves, 1, 0, 1, 9);
        readerIs(halves, 1, 5, 1, 0);
        readerIs(halves, 3, 5, 3, 0);
        readerIs(halves, 4, 5, 1, 0);
        readerIs(halves, 4, 0, 2, 9);
    }

    private static void readerByChapters() {
        WhereIGotTo x = told("n10;h03;h06;s011;s022;s033;s044;s055;s066;s077;s088;s099;");
        readerIs(x, 2, 0, 2, 4);
        readerIs(x, 2, 1, 3, 5);
        readerIs(x, 2, 2, 3, 3);
        readerIs(x, 2, 3, 3, 10);
        readerIs(x, 2, 5, 4, 6);
        readerIs(x, 2, 6, 3, 7);
        readerIs(x, 2, 9, 5, 0);
        WhereIGotTo none = told("n4;s012;");
        readerIs(none, 2, 0, 1, 2);
        readerIs(none, 2, 3, 3, 0);
        WhereIGotTo last = told("n4;h03;");
        readerIs(last, 2, 3, 1, 0);
        readerIs(last, 2, 2, 3, 0);
    }

    private static void readersIs(WhereIGotTo x, int kind, int what, long above, long below) {
        due.isFraction("21 readers " + kind + " " + what, x.readers(kind, what, 0), x.readers(kind, what, 1), above, below);
    }

    private static void readersMeans() {
        WhereIGotTo x = told("n4;c003;c022;s011;s022;s033;");
        // Reader: 1, 2, 3, 3 looks; 1, 2, 3, 0 secrets; parts 3, 1, 2, 1.
        readersIs(x, 0, 0, 2, 1);
        readersIs(x, 0, 1, 11, 7);
        // Back: 3, 3, 2, 1 looks; 6, 5, 3, 0 secrets.
        readersIs(x, 5, 0, 17, 7);
        readersIs(x, 5, 1, 29, 7);
        // Half: 2 first, then 1 or 3.
        readersIs(x, 1, 0, 2, 1);
        readersIs(x, 1, 1, 17, 7);
        x.look(2, 0);
        readersIs(x, 0, 0, 5, 4);
        due.is("21 kind", x.readers(6, 0, 0), OTHER);
        due.is("21 kind", x.readers(-1, 0, 0), OTHER);
        due.is("21 what", x.readers(0, 2, 0), OTHER);
        due.is("21 what", x.readers(0, -1, 0), OTHER);
        due.is("21 part", x.readers(0, 0, 2), OTHER);
        due.is("21 part", x.readers(0, 0, -1), OTHER);
        due.is("21 refusals", x.count(12), 6);
    }

    private static void stop() {
        due.is("22 stop", new WhereIGotTo().stop(), 2);
        due.is("22 sure", told("l051;l060;").stop(), 5);
        // At 1: 3 pages twice; at 2: 2 pages twice; at 3: 3 times 3 for a page missed, and one twice.
        due.is("22 between two", told("n5;c000;c020;c030;c013;").stop(), 2);
        // At 1: one page twice, 3 times; at 2: one missed.
        due.is("22 of several the least", told("n3;c023;").stop(), 1);
        due.is("22 the front", told("n3;l010;").stop(), 0);
        due.is("22 the last", told("n3;c029;c010;").stop(), 2);
    }

    private static void stops() {
        WhereIGotTo x = new WhereIGotTo();
        due.isFraction("23 stops 0", x.stops(0, 0), x.stops(0, 1), 7, 2);
        due.isFraction("23 stops 2", x.stops(2, 0), x.stops(2, 1), 9, 4);
        due.isFraction("23 stops 7", x.stops(7, 0), x.stops(7, 1), 63, 8);
        x.look(7, 1);
        due.isFraction("23 stops 7", x.stops(7, 0), x.stops(7, 1), 0, 1);
        due.is("23 no page", x.stops(8, 2), NOBODY);
        due.is("23 no page", x.stops(-1, 0), NOBODY);
        due.is("23 part", x.stops(0, 2), OTHER);
        due.is("23 part", x.stops(0, -1), OTHER);
    }

    private static void opensIs(WhereIGotTo x, int q, int last, long above, long below) {
        due.isFraction("24 opens " + q + " " + last, x.opens(q, last, 0), x.opens(q, last, 1), above, below);
    }

    private static void opens() {
        WhereIGotTo x = told("n3;c012;c023;r012;");
        opensIs(x, 1, 0, 1, 11);
        opensIs(x, 1, 1, 7, 11);
        opensIs(x, 1, 2, 3, 11);
        opensIs(x, 0, 0, 1, 1);
        opensIs(x, 0, 1, 0, 1);
        x.look(1, 1);
        opensIs(x, 0, 0, 0, 1);
        opensIs(x, 0, 1, 0, 1);
        opensIs(x, 1, 0, 0, 1);
        opensIs(x, 1, 1, 7, 10);
        due.is("24 no page", x.opens(3, 0, 2), NOBODY);
        due.is("24 no page", x.opens(-1, 0, 0), NOBODY);
        due.is("24 no last", x.opens(0, 3, 0), NOBODY);
        due.is("24 no last", x.opens(0, -1, 0), NOBODY);
        due.is("24 part", x.opens(0, 0, 2), OTHER);
        due.is("24 part", x.opens(0, 0, -1), OTHER);
        due.is("24 refusals -1", x.count(11), 4);
    }

    private static void mark() {
        WhereIGotTo x = new WhereIGotTo();
        due.isFraction("25 mark 0", x.mark(0, 0), x.mark(0, 1), 3, 1);
        due.isFraction("25 mark 3", x.mark(3, 0), x.mark(3, 1), 21, 10);
        due.isFraction("25 mark 5", x.mark(5, 0), x.mark(5, 1), 3, 2);
        due.isFraction("25 mark 10", x.mark(10, 0), x.mark(10, 1), 0, 1);
        due.is("25 below", x.mark(-1, 2), BELOW);
        due.is("25 above", x.mark(11, 2), ROOM);
        due.is("25 part", x.mark(0, 2), OTHER);
        due.is("25 part", x.mark(0, -1), OTHER);
        due.is("25 refusals -2", x.count(12), 2);
        due.is("25 refusals -4", x.count(14), 1);
        due.is("25 refusals -6", x.count(16), 1);
    }

    private static void crumb() {
        WhereIGotTo x = told("n4;c012;c023;c034;");
        due.isFraction("26 alike", x.crumb(2, 0), x.crumb(2, 1), 1, 2);
        x.look(2, 1);
        due.isFraction("26 this one's", x.crumb(2, 0), x.crumb(2, 1), 10, 17);
        due.isFraction("26 the other one's", x.crumb(0, 0), x.crumb(0, 1), 0, 1);
        x.set(1, 0, 0);
        due.isFraction("26 nobody's", x.crumb(1, 0), x.crumb(1, 1), 0, 1);
        due.is("26 no page", x.crumb(4, 2), NOBODY);
        due.is("26 no page", x.crumb(-1, 0), NOBODY);
        due.is("26 part", x.crumb(0, 2), OTHER);
        due.is("26 part", x.crumb(0, -1), OTHER);
    }

    private static void kinds() {
        due.is("27 no looks", new WhereIGotTo().kinds(), 63);
        due.is("27 known", told("l031;").kinds(), 63);
        due.is("27 not known: no child", told("l030;").kinds(), 47);
        due.is("27 only one who is vague", told("k30;l020;l051;").kinds(), 8);
        due.is("27 vague or asleep", told("k30;l030;l051;").kinds(), 40);
        due.is("27 by the figure as it is", told("k34;l020;l051;").kinds(), 46);
        due.is("27 on a page with a chance", told("n3;k30;c000;l000;l010;").kinds(), 40);
    }

    private static void drops() {
        due.is("28 none", new WhereIGotTo().drops(), 0);
        due.is("28 the second", told("n4;l011;l021;").drops(), 2);
        due.is("28 neither alone", told("n4;l021;l021;").drops(), 0);
        due.is("28 the first", told("n4;l031;l021;l011;").drops(), 1);
        WhereIGotTo x = told("n3;k30;l021;l010;");
        // Parts 1 9, 1 1, 9 1: the likeliest is 0 of several; without either look 2 or 0.
        due.is("28 by the likeliest", x.drops(), 1 << 1);
        due.is("28 nothing changes", x.count(1), 2);
        due.is("28 likely as it was", x.best(0), 0);
    }

    private static void row() {
        WhereIGotTo x = new WhereIGotTo();
        due.is("29 below", x.row(-1), -4);
        due.is("29 above", x.row(100), -6);
        for (int i = 1; i <= 12; i++) {
            due.is("29 row", x.row(i == 1 ? 99 : 0), i);
        }
        due.is("29 no room", x.row(0), -6);
        due.is("29 below", x.row(-1), -4);
        due.is("29 in the row", x.count(7), 12);
        due.is("29 refusals -4", x.count(14), 2);
        due.is("29 refusals -6", x.count(16), 2);
    }

    private static void judgeIs(WhereIGotTo x, int want, int... numbers) {
        for (int number : numbers) {
            x.row(number);
        }
        due.is("30 judge", x.judge(), want);
        due.is("30 the row has none then", x.count(7), 0);
    }

    private static void judge() {
        WhereIGotTo x = new WhereIGotTo();
        judgeIs(x, -9);
        judgeIs(x, -9, 3, 1, 5, 0);
        judgeIs(x, 0, 8, 1);
        judgeIs(x, 2, 3, 1, 99, 7);
        judgeIs(x, 1, 3, 2);
        judgeIs(x, 3, 3, 1, 3, 0);
        judgeIs(x, 5, 3, 1, 5, 0, 5, 1, 9, 9);
        judgeIs(x, 0, 3);
        judgeIs(x, 2, 3, 1, 99);
        judgeIs(x, 4, 3, 1, 4, 1, 7);
        judgeIs(x, 1, 0, 0);
        judgeIs(x, -9, 1, 1, 1, 1, 1, 1, 1, 1, 1, 1, 1, 1);
        due.is("30 in mind alone", x.count(1), 0);
        x.look(5, 1);
        judgeIs(x, 1, 4, 0);
        WhereIGotTo full = told("l031;".repeat(8));
        judgeIs(full, -9, 4, 1, 6, 0);
        judgeIs(full, 1, 3, 0);
        for (int what = 11; what <= 16; what++) {
            due.is("30 no refusals", full.count(what), 0);
        }
    }

    private static void seeds() {
        WhereIGotTo x = told("s011;s022;s033;s044;s055;s066;s077;");
        // z 0 draws 0, 4, 4, 5, 2, 7, 5, 5 of 8.
        due.is("31 looks of one", x.seeds(0, 1, 0, 0), 1);
        due.is("31 looks of eight", x.seeds(0, 8, 0, 0), 1 + 5 + 5 + 6 + 3 + 7 + 6 + 6);
        due.is("31 given", x.seeds(0, 8, 0, 1), 1 + 5 + 5 + 6 + 3 + 0 + 6 + 6);
        due.is("31 from the back", x.seeds(5, 6, 0, 0), 7 + 4 + 4 + 3 + 6 + 1);
        due.is("31 by halves", x.seeds(1, 30, 12345, 0), 90);
        due.is("31 kind", x.seeds(6, 0, 0, 0), -2);
        due.is("31 kind", x.seeds(-1, 1, 0, 0), -2);
        due.is("31 below", x.seeds(0, 0, 0, 2), -4);
        due.is("31 above", x.seeds(0, 31, 0, 2), -6);
        due.is("31 what", x.seeds(0, 1, 0, 2), -2);
        due.is("31 what", x.seeds(0, 1, 0, -1), -2);
        due.is("31 refusals -2", x.count(12), 4);
        // By chances alone: page 0 has 3 of 5, page 7 has 2; z 0 draws 0, 3, 3, 2, 3, 2 of 5.
        WhereIGotTo two = told("c003;c010;c020;c030;c040;c050;c060;c072;");
        two.look(7, 1);
        due.is("31 by chances", two.seeds(0, 6, 0, 0), 1 + 7 + 7 + 1 + 7 + 1);
        due.is("31 but halves by parts", two.seeds(1, 6, 0, 0), 0);
    }

    private static void imageAndRestore() {
        WhereIGotTo x = told("n5;c022;s023;r024;h02;k15;l011;");
        due.is("33 none", x.restore(), -3);
        due.is("32 image", x.image(), 1);
        tell(x, "n9;c028;s021;k23;l010;l020;h03;");
        x.feed('n');
        x.row(1);
        due.is("33 restore", x.restore(), 1);
        due.is("33 pages", x.count(0), 5);
        due.is("33 chance", x.page(2, 0), 2);
        due.is("33 secret", x.page(2, 1), 3);
        due.is("33 crack", x.page(2, 2), 4);
        due.is("33 chapter", x.page(2, 3), 1);
        due.is("33 no chapter", x.page(3, 3), 0);
        due.is("33 knower", x.count(8) * 10 + x.count(9), 15);
        due.is("33 look", x.looked(0), 11);
        due.is("33 but the letters", x.count(6), 1);
        due.is("33 but the row", x.count(7), 1);
        due.is("33 but the refusals", x.count(13), 1);
        x.look(2, 0);
        due.is("33 once more", x.restore(), 1);
        x.look(2, 0);
        due.is("32 another image", x.image(), 2);
        x.undo();
        x.undo();
        due.is("33 restore", x.restore(), 2);
        due.is("33 look", x.looked(1), 20);
    }

    private static void count() {
        WhereIGotTo x = told("n7;c019;s025;s034;h03;h05;k27;l011;l060;");
        Told.feed(x, "n5");
        x.row(7);
        int[] counts = {7, 2, 15, 3, 9, 7, 2, 1, 2, 7};
        for (int what = 0; what < counts.length; what++) {
            due.is("34 count " + what, x.count(what), counts[what]);
        }
        x.set(0, 0, 0);
        due.is("34 pages of may", x.count(5), 6);
        x.page(9, 0);
        x.page(0, 9);
        x.page(0, 9);
        x.restore();
        x.feed(-1);
        x.row(100);
        x.row(100);
        int[] refusals = {1, 2, 1, 1, 0, 2};
        for (int i = 0; i < refusals.length; i++) {
            due.is("34 refusals " + (i + 1), x.count(11 + i), refusals[i]);
        }
        for (int what : new int[] {-1, 10, 17, Integer.MAX_VALUE, Integer.MIN_VALUE}) {
            due.is("34 another what", x.count(what), -9);
        }
    }
}
