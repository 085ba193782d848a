/** Objects that are told in letters. */
final class Told {
    private Told() {
    }

    static void feed(WhereIGotTo x, String letters) {
        for (int i = 0; i < letters.length(); i++) {
            x.feed(letters.charAt(i));
        }
    }

    static int tell(WhereIGotTo x, String letters) {
        feed(x, letters);
        return x.book();
    }

    /** A new object told a book without fault: a test that can't begin as it says is no test. */
    static WhereIGotTo book(String letters) {
        WhereIGotTo x = new WhereIGotTo();
        int answer = tell(x, letters);
        if (answer <= 0) {
            throw new IllegalStateException("no book: " + letters + " answered " + answer);
        }
        return x;
    }
}
