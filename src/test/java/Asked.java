import java.lang.reflect.InvocationTargetException;
import java.lang.reflect.Method;
import java.util.Arrays;
import java.util.HashMap;
import java.util.Map;

/** The program or the Model, asked by the names of calls, so that one script can make both of them alike. */
final class Asked {
    private static final int MOST_CALLS = 512;
    private static final Map<String, Method> METHODS = new HashMap<>();

    private final Object object;
    private int calls = 0;

    private Asked(Object object) {
        this.object = object;
    }

    static Asked program() {
        return new Asked(new WhereIGotTo());
    }

    static Asked model() {
        return new Asked(new Model());
    }

    long ask(String call, int... args) {
        // What the 513th call answers is free, so a test that asks it would test nothing.
        if (calls == MOST_CALLS) {
            throw new IllegalStateException("a test asks more than " + MOST_CALLS + " calls of one object");
        }
        calls++;
        try {
            Object[] boxed = Arrays.stream(args).boxed().toArray();
            return ((Number) method(call, args.length).invoke(object, boxed)).longValue();
        } catch (InvocationTargetException e) {
            throw new IllegalStateException(call + Arrays.toString(args) + " threw", e.getCause());
        } catch (ReflectiveOperationException e) {
            throw new IllegalStateException("no such call: " + call, e);
        }
    }

    private Method method(String call, int args) throws NoSuchMethodException {
        String key = object.getClass().getName() + " " + call + " " + args;
        Method known = METHODS.get(key);
        if (known == null) {
            Class<?>[] types = new Class<?>[args];
            Arrays.fill(types, int.class);
            known = object.getClass().getDeclaredMethod(call, types);
            METHODS.put(key, known);
        }
        return known;
    }

    void feed(String letters) {
        for (int i = 0; i < letters.length(); i++) {
            ask("feed", letters.charAt(i));
        }
    }

    long tell(String letters) {
        feed(letters);
        return ask("book");
    }

    void row(int... numbers) {
        for (int v : numbers) {
            ask("row", v);
        }
    }

    /** All that there is now, as calls tell it that change nothing; of letters and the row how many there are. */
    String seen() {
        StringBuilder seen = new StringBuilder("counts");
        for (int what = 0; what <= 9; what++) {
            seen.append(' ').append(ask("count", what));
        }
        long pages = ask("count", 0);
        for (int page = 0; page < pages; page++) {
            seen.append(", page ").append(page).append(':');
            for (int what = 0; what <= 3; what++) {
                seen.append(' ').append(ask("page", page, what));
            }
        }
        seen.append(", looks:");
        long looks = ask("count", 1);
        for (int i = 0; i < looks; i++) {
            seen.append(' ').append(ask("looked", i));
        }
        return seen.toString();
    }

    /** REFUSALS -1 .. -6. */
    long[] refusals() {
        long[] refusals = new long[6];
        for (int i = 0; i < refusals.length; i++) {
            refusals[i] = ask("count", 11 + i);
        }
        return refusals;
    }

    /** What is hidden in the row, the letters and the image, as it comes to light when they are used. */
    String usedUp() {
        StringBuilder told = new StringBuilder("judge ").append(ask("judge"));
        told.append(", book ").append(ask("book")).append(", may ").append(ask("may"));
        told.append(", restore ").append(ask("restore")).append(", ").append(seen());
        return told.toString();
    }
}
