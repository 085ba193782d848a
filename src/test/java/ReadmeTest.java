import java.nio.file.Files;
import java.nio.file.Path;
import java.util.ArrayList;
import java.util.List;
import java.util.TreeMap;
import java.util.regex.Matcher;
import java.util.regex.Pattern;

/** What README.md shows: its calls with their answers, and its table of calls, held against the document. */
final class ReadmeTest {
    private static final Due due = new Due("ReadmeTest");

    private static final Pattern JAVA_BLOCK = Pattern.compile("(?s)\n```java\n(.*?)```");
    private static final Pattern CALL = Pattern.compile("\\s*x\\.(\\w+)\\(([^)]*)\\);");
    private static final Pattern ANSWERS = Pattern.compile("\\s*(-?\\d+(?:, -?\\d+)*)(?:: .*)?");
    private static final Pattern PROMISE = Pattern.compile("(?m)^## Promise (\\d+): [^\n]*\n\n`([^`]*)`:(.*)$");
    private static final Pattern ROW = Pattern.compile("(?m)^\\| (\\d+) \\| `([^`]*)` \\| [^|]+ \\|([^|]*)\\|$");
    private static final Pattern REFUSAL = Pattern.compile("-[1-6]\\b");
    private static final String MADE = "WhereIGotTo x = new WhereIGotTo();";

    public static void main(String[] args) throws Exception {
        String readme = Files.readString(Path.of(args[1]));
        String document = Files.readString(Path.of(args[2]));
        shownAnswers(readme);
        tableOfCalls(readme, document);
        due.is("says for how many calls an object is used", readme.contains("at most 512 calls") ? 1 : 0, 1);
        due.end();
    }

    private static void shownAnswers(String readme) {
        Matcher block = JAVA_BLOCK.matcher(readme);
        int blocks = 0;
        while (block.find()) {
            blocks++;
            Asked x = null;
            for (String line : block.group(1).split("\n")) {
                if (line.startsWith(MADE)) {
                    x = Asked.program();
                } else {
                    asShown(x, line);
                }
            }
        }
        due.is("blocks of calls", blocks > 0 ? 1 : 0, 1);
        due.is("blocks in all", blocks, readme.split("\n```java\n", -1).length - 1);
    }

    /** A line of calls, and behind them in the comment the answers; any other line can't be tested, so it is wrong. */
    private static void asShown(Asked x, String line) {
        int comment = line.indexOf("//");
        Matcher answers = ANSWERS.matcher(comment < 0 ? "" : line.substring(comment + 2));
        if (x == null || !answers.matches()) {
            due.isText("a line of calls with answers, on an object that is made", line, "");
            return;
        }
        List<String> shown = List.of(answers.group(1).split(", "));
        String code = line.substring(0, comment);
        Matcher call = CALL.matcher(code);
        int place = 0;
        int calls = 0;
        while (call.find(place) && call.start() == place) {
            long got = x.ask(call.group(1), numbersOf(call.group(2)));
            if (calls < shown.size()) {
                due.is(call.group().strip(), got, Long.parseLong(shown.get(calls)));
            }
            calls++;
            place = call.end();
        }
        due.isText("behind the calls of " + line, code.substring(place).strip(), "");
        due.is("calls and answers of " + line, calls, shown.size());
    }

    /** Arguments as Java writes them: numbers, or a letter between quotes. */
    private static int[] numbersOf(String args) {
        String[] texts = args.isEmpty() ? new String[0] : args.split(", ");
        int[] numbers = new int[texts.length];
        for (int i = 0; i < texts.length; i++) {
            boolean isLetter = texts[i].matches("'[^'\\\\]'");
            numbers[i] = isLetter ? texts[i].charAt(1) : Integer.parseInt(texts[i]);
        }
        return numbers;
    }

    /** Each promise's call as the document writes it, and its refusals in the document's order. */
    private static void tableOfCalls(String readme, String document) {
        TreeMap<Integer, String> rows = new TreeMap<>();
        TreeMap<Integer, String> refusals = new TreeMap<>();
        Matcher row = ROW.matcher(readme);
        while (row.find()) {
            int number = Integer.parseInt(row.group(1));
            due.is("rows of promise " + number, rows.containsKey(number) ? 2 : 1, 1);
            rows.put(number, row.group(2));
            refusals.put(number, row.group(3).strip());
        }
        Matcher promise = PROMISE.matcher(document);
        int promises = 0;
        while (promise.find()) {
            promises++;
            int number = Integer.parseInt(promise.group(1));
            if (number == 1) {
                due.is("says how an object is made", readme.contains("`new " + promise.group(2) + "`") ? 1 : 0, 1);
                continue;
            }
            due.isText("call of promise " + number, rows.getOrDefault(number, ""), promise.group(2));
            String wanted = refusalsIn(number, promise.group(3));
            due.isText("refusals of promise " + number, refusals.getOrDefault(number, ""), wanted);
        }
        due.is("promises", promises, 34);
        due.is("rows", rows.size(), 33);
    }

    private static String refusalsIn(int promise, String text) {
        // What COUNT tells of, -1 to -6, it does not answer.
        if (promise == 34) {
            return "";
        }
        List<String> refusals = new ArrayList<>();
        Matcher refusal = REFUSAL.matcher(text);
        while (refusal.find()) {
            refusals.add(refusal.group());
        }
        return String.join("; ", refusals);
    }
}
