import java.lang.reflect.Constructor;
import java.lang.reflect.Field;
import java.lang.reflect.Method;
import java.lang.reflect.Modifier;
import java.nio.file.Files;
import java.nio.file.Path;
import java.util.ArrayList;
import java.util.Arrays;
import java.util.List;
import java.util.TreeSet;
import java.util.regex.Matcher;
import java.util.regex.Pattern;

/** The face of the class, and those rules of LANGUAGE.md that can be read off the source or the class. */
final class LanguageTest {
    private static final Due due = new Due("LanguageTest");

    private static final String[] FACE = {
        "int feed(int)", "int book()", "int page(int,int)", "int set(int,int,int)", "int chapter(int)",
        "int knower(int,int)", "int tenths(int,int)", "int look(int,int)", "int looked(int)", "int undo()",
        "long likely(int,int,int)", "int may()", "int best(int)", "int astray(int,int)", "int worst()",
        "long mean(int,int)", "int first(int)", "int dear()", "int reader(int,int,int)", "long readers(int,int,int)",
        "int stop()", "long stops(int,int)", "long opens(int,int,int)", "long mark(int,int)", "long crumb(int,int)",
        "int kinds()", "int drops()", "int row(int)", "int judge()", "int seeds(int,int,int,int)", "int image()",
        "int restore()", "int count(int)"};

    private static final String[] NEVER = {
        "\\bthrow\\b", "\\btry\\b", "\\bcatch\\b", "\\bsynchronized\\b", "\\bassert\\b", "\\bimport\\b", "\\bpackage\\b",
        "->", "::", "\\binstanceof\\b", "\\bsystem\\.(?!arraycopy)", "\\bString\\b", "\\bObject\\b", "\\bvar\\b",
        "\\bnative\\b", "\\btransient\\b", "\\bvolatile\\b", "\\bprotected\\b", "\\bnull\\b", "\\bstatic \\{", "\\bdouble\\b",
        "\\bfloat\\b", "@", "\\b(Integer|Long)\\.(?!bitCount)", "\\bMath\\.(?!min|max)"};

    public static void main(String[] args) throws Exception {
        faceIsTheDocuments();
        othersArePrivate();
        String source = withoutComments(Files.readString(Path.of(args[0])));
        nothingForbidden(source);
        objectsAreMadeInFieldsAlone(source);
        methodsAreShort(source);
        due.end();
    }

    private static void faceIsTheDocuments() {
        List<String> face = new ArrayList<>();
        for (Method method : WhereIGotTo.class.getDeclaredMethods()) {
            if (Modifier.isPublic(method.getModifiers())) {
                String types = Arrays.toString(Arrays.stream(method.getParameterTypes()).map(Class::getName).toArray());
                String inBraces = types.substring(1, types.length() - 1).replace(" ", "");
                face.add(method.getReturnType() + " " + method.getName() + "(" + inBraces + ")");
            }
        }
        for (String call : FACE) {
            due.is("in the face: " + call, face.contains(call) ? 1 : 0, 1);
        }
        due.is("calls in the face", face.size(), FACE.length);
        due.is("constructors", WhereIGotTo.class.getDeclaredConstructors().length, 1);
        int modifiers = WhereIGotTo.class.getModifiers();
        due.is("public and final", modifiers, Modifier.PUBLIC | Modifier.FINAL);
    }

    private static void othersArePrivate() {
        TreeSet<String> publicNames = new TreeSet<>();
        for (String call : FACE) {
            publicNames.add(call.substring(call.indexOf(' ') + 1, call.indexOf('(')));
        }
        List<Class<?>> classes = new ArrayList<>(List.of(WhereIGotTo.class));
        classes.addAll(Arrays.asList(WhereIGotTo.class.getDeclaredClasses()));
        due.is("no more than twelve classes", classes.size() <= 12 ? 1 : 0, 1);
        for (Class<?> one : classes) {
            boolean outer = one == WhereIGotTo.class;
            due.is(one + " static", outer || Modifier.isStatic(one.getModifiers()) ? 1 : 0, 1);
            long fields = Arrays.stream(one.getDeclaredFields()).filter(f -> !Modifier.isStatic(f.getModifiers())).count();
            due.is("some twenty fields of " + one, fields <= 20 ? 1 : 0, 1);
            for (Field field : one.getDeclaredFields()) {
                due.is(field + " private", Modifier.isPrivate(field.getModifiers()) ? 1 : 0, 1);
                boolean free = !Modifier.isStatic(field.getModifiers()) || Modifier.isFinal(field.getModifiers());
                due.is(field + " final, if static", free ? 1 : 0, 1);
            }
            for (Method method : one.getDeclaredMethods()) {
                boolean isPrivate = Modifier.isPrivate(method.getModifiers());
                due.is(method + " private", isPrivate || outer && publicNames.contains(method.getName()) ? 1 : 0, 1);
                due.is(method + " has a name of its own", isPrivate && publicNames.contains(method.getName()) ? 1 : 0, 0);
                due.is(method + " parameters", method.getParameterCount() <= 7 ? 1 : 0, 1);
            }
            for (Constructor<?> constructor : one.getDeclaredConstructors()) {
                due.is(constructor + " private", outer || Modifier.isPrivate(constructor.getModifiers()) ? 1 : 0, 1);
            }
        }
    }

    private static String withoutComments(String source) {
        return source.replaceAll("(?s)/\\*.*?\\*/", "").replaceAll("//[^\n]*", "");
    }

    private static void nothingForbidden(String source) {
        for (String never : NEVER) {
            Matcher matcher = Pattern.compile(never, Pattern.CASE_INSENSITIVE).matcher(source);
            due.is("source has " + never, matcher.find() ? 1 : 0, 0);
        }
    }

    /** All calls of a run live in one room, so no call makes anything. */
    private static void objectsAreMadeInFieldsAlone(String source) {
        for (String line : source.split("\n")) {
            boolean makes = Pattern.compile("\\bnew\\b").matcher(line).find();
            boolean isField = line.matches("\\s+private final \\S+ \\w+ = new .*;");
            due.is("made outside a field:" + line, makes && !isField ? 1 : 0, 0);
        }
    }

    private static void methodsAreShort(String source) {
        int depthOfMethod = -1;
        int start = 0;
        String[] lines = source.split("\n");
        for (int i = 0; i < lines.length; i++) {
            int indent = lines[i].length() - lines[i].stripLeading().length();
            if (lines[i].matches("\\s+(public|private) [^=;]*\\) \\{")) {
                depthOfMethod = indent;
                start = i;
            } else if (lines[i].strip().equals("}") && indent == depthOfMethod) {
                due.is("lines of " + lines[start].strip(), i - start <= 60 ? 1 : 0, 1);
                depthOfMethod = -1;
            }
        }
    }
}
