import java.util.Random;

/** Runs of calls by fixed seeds, ordinary ones and wrong ones, held against the Model. */
final class ModelTest {
    private static final int RUNS = 400;
    private static final int CALLS = 300;
    private static final int SHOWN = 20;

    private final Random random;
    private final Due due;
    private final int run;
    private final WhereIGotTo x = new WhereIGotTo();
    private final Model m = new Model();

    private ModelTest(int run, Due due) {
        this.run = run;
        this.due = due;
        this.random = new Random(run);
    }

    public static void main(String[] args) {
        Due due = new Due("ModelTest");
        for (int run = 0; run < RUNS && due.wrongSoFar() < SHOWN; run++) {
            ModelTest test = new ModelTest(run, due);
            test.makeBook();
            for (int i = 0; i < CALLS; i++) {
                test.call(i);
            }
        }
        due.end();
    }

    private boolean oneIn(int n) {
        return random.nextInt(n) == 0;
    }

    /** Mostly from 0 to top, now and then a little beyond or far out. */
    private int about(int top) {
        if (oneIn(60)) {
            return random.nextInt();
        }
        return oneIn(12) ? random.nextInt(top + 5) - 2 : random.nextInt(top + 1);
    }

    private int aPage() {
        return about(m.state.pages() - 1);
    }

    private int aPart() {
        return about(1);
    }

    /** A page and a word that somebody could say, mostly, so that looks come to be many. */
    private void makeBook() {
        feed("n" + (2 + random.nextInt(run % 4 == 0 ? 23 : 9)) + ";k" + random.nextInt(6) + random.nextInt(10) + ";");
        book();
    }

    private void feed(String letters) {
        for (char letter : letters.toCharArray()) {
            due.is(run + " feed " + letter, x.feed(letter), m.feed(letter));
        }
    }

    private void book() {
        String letters = m.letters.toString();
        due.is(run + " book " + letters, x.book(), m.book());
    }

    private String two(int number) {
        return (number < 10 ? "0" : "") + number;
    }

    private String statement() {
        int page = random.nextInt(m.state.pages() + (oneIn(20) ? 2 : 0));
        switch (random.nextInt(9)) {
            case 0: return oneIn(4) ? "n" + (oneIn(6) ? random.nextInt(100) : 2 + random.nextInt(23)) + ";" : "";
            case 1: case 2: return "c" + two(page) + random.nextInt(10) + ";";
            case 3: return "s" + two(page) + random.nextInt(10) + ";";
            case 4: return "r" + two(page) + random.nextInt(10) + ";";
            case 5: return "h" + two(page) + ";";
            case 6: return "k" + random.nextInt(oneIn(20) ? 10 : 6) + random.nextInt(10) + ";";
            case 7: return "l" + two(page) + random.nextInt(oneIn(20) ? 10 : 2) + ";";
            default: return "c" + two(page) + "0;";
        }
    }

    private void tellBook() {
        StringBuilder text = new StringBuilder();
        int statements = random.nextInt(20);
        for (int i = 0; i < statements && text.length() < 91; i++) {
            text.append(statement());
        }
        if (oneIn(4) && text.length() > 0) {
            int place = random.nextInt(text.length());
            int letter = "ncsrhkl;0123456789x".charAt(random.nextInt(19));
            switch (random.nextInt(3)) {
                case 0: text.setCharAt(place, (char) letter); break;
                case 1: text.deleteCharAt(place); break;
                default: text.setLength(place);
            }
        }
        feed(text.toString());
        book();
    }

    private void judgeRow() {
        int numbers = random.nextInt(14);
        for (int i = 0; i < numbers; i++) {
            int v = oneIn(50) ? about(99) : i % 2 == 0 ? random.nextInt(m.state.pages()) : random.nextInt(2);
            due.is(run + " row " + v, x.row(v), m.row(v));
        }
        due.is(run + " judge " + m.row, x.judge(), m.judge());
    }

    private void call(int i) {
        int kind = random.nextInt(40);
        if (kind < 14) {
            change(kind);
        } else {
            ask(kind);
        }
        if (oneIn(8)) {
            int what = about(17);
            due.is(run + "/" + i + " count " + what, x.count(what), m.count(what));
        }
    }

    private void change(int kind) {
        String at = run + " ";
        int p = aPage();
        switch (kind) {
            case 0: case 1: case 2: {
                int what = about(2);
                int v = oneIn(3) ? 0 : about(9);
                due.is(at + "set " + p + " " + what + " " + v, x.set(p, what, v), m.set(p, what, v));
                break;
            }
            case 3: due.is(at + "chapter " + p, x.chapter(p), m.chapter(p)); break;
            case 4: case 5: {
                int aKind = about(5);
                int figure = about(9);
                due.is(at + "knower " + aKind + " " + figure, x.knower(aKind, figure), m.knower(aKind, figure));
                break;
            }
            case 6: case 7: case 8: {
                int said = about(1);
                due.is(at + "look " + p + " " + said, x.look(p, said), m.look(p, said));
                break;
            }
            case 9: due.is(at + "undo", x.undo(), m.undo()); break;
            case 10: if (oneIn(3)) { due.is(at + "image", x.image(), m.image()); } break;
            case 11: if (oneIn(3)) { due.is(at + "restore", x.restore(), m.restore()); } break;
            case 12: if (oneIn(5)) { tellBook(); } break;
            default: if (oneIn(3)) { judgeRow(); }
        }
    }

    private void ask(int kind) {
        String at = run + " ";
        int p = aPage();
        int q = aPage();
        int a = about(1);
        int b = about(3);
        int c = about(10);
        int reader = about(5);
        int part = aPart();
        String args = " p" + p + " q" + q + " a" + a + " b" + b + " c" + c + " reader" + reader + " part" + part;
        switch (kind) {
            case 14: due.is(at + "page" + args, x.page(p, b), m.page(p, b)); break;
            case 15: due.is(at + "page" + args, x.page(p, 4), m.page(p, 4)); break;
            case 16: due.is(at + "tenths" + args, x.tenths(p, q), m.tenths(p, q)); break;
            case 17: due.is(at + "looked" + args, x.looked(b), m.looked(b)); break;
            case 18: case 19: due.is(at + "likely" + args, x.likely(p, b, part), m.likely(p, b, part)); break;
            case 20: due.is(at + "may", x.may(), m.may()); break;
            case 21: due.is(at + "best" + args, x.best(b), m.best(b)); break;
            case 22: due.is(at + "astray" + args, x.astray(p, a), m.astray(p, a)); break;
            case 23: due.is(at + "worst", x.worst(), m.worst()); break;
            case 24: case 25: due.is(at + "mean" + args, x.mean(a, part), m.mean(a, part)); break;
            case 26: due.is(at + "first" + args, x.first(a), m.first(a)); break;
            case 27: due.is(at + "dear", x.dear(), m.dear()); break;
            case 28: case 29: due.is(at + "reader" + args, x.reader(reader, p, a), m.reader(reader, p, a)); break;
            case 30: due.is(at + "readers" + args, x.readers(reader, a, part), m.readers(reader, a, part)); break;
            case 31: due.is(at + "stop", x.stop(), m.stop()); break;
            case 32: due.is(at + "stops" + args, x.stops(p, part), m.stops(p, part)); break;
            case 33: due.is(at + "opens" + args, x.opens(p, q, part), m.opens(p, q, part)); break;
            case 34: due.is(at + "mark" + args, x.mark(c, part), m.mark(c, part)); break;
            case 35: due.is(at + "crumb" + args, x.crumb(p, part), m.crumb(p, part)); break;
            case 36: due.is(at + "kinds", x.kinds(), m.kinds()); break;
            case 37: due.is(at + "drops", x.drops(), m.drops()); break;
            case 38: due.is(at + "opens" + args, x.opens(p, p, part), m.opens(p, p, part)); break;
            default: {
                int n = about(31);
                int z = random.nextInt();
                due.is(at + "seeds" + args + " n" + n + " z" + z, x.seeds(reader, n, z, a), m.seeds(reader, n, z, a));
            }
        }
    }
}
