import java.io.IOException;
import java.lang.reflect.Method;
import java.lang.reflect.Modifier;
import java.util.regex.Matcher;
import java.util.regex.Pattern;

/** A walk through 'What it is' and 'The public face': each line of the face with an answer and each exception. */
public final class FaceSentencesTest extends Sentences {
    private static final Pattern METHOD =
            Pattern.compile("public (\\w+) (\\w+)\\(([^)]*)\\)(?: throws ([\\w, ]+))?;");
    private static int methods;

    private static void whatItIs() {
        says("# LensPaths ## What it is Records under versions of a schema: steps lead from one version to another"
                + " and back, primitive by primitive;");
        Run r = withNumber(0, 99);
        r.step(0, NONE, SCALE, p(0), 3, 1, 0, MAP, p(0), 6, 7, 0, WRAP, p(0), 0, 0, 0);
        r.does("record", 0);
        r.does("set", 0, p(0), 2);
        r.due(1, "translate", 0, 1);
        r.dueList(0, p(0), 7);
        r.due(1, "translate", 0, 0);
        r.due(2, "get", 0, p(0));

        says("what a step cannot show is kept aside and comes back with the way back;");
        Run kept = withList(0, 9);
        kept.step(0, NONE, REMOVE, p(0), 0, 0, 0);
        kept.does("record", 0);
        kept.list(0, p(0), 3, 1, 4);
        kept.does("translate", 0, 1);
        kept.due(1, "kept", 0);
        kept.due(NONE, "about", 1, p(0), 0);
        kept.does("translate", 0, 0);
        kept.dueList(0, p(0), 3, 1, 4);
        kept.due(0, "kept", 0);

        says("and it is told whether two ways between two versions make the same of every record.");
        twoWays(2, 2, 0);
        twoWays(2, 3, 1);
    }

    /** Step 0 maps 1 to one number, the way round over version 2 maps it to another: all records with 0 to 9 go both ways. */
    private static void twoWays(int one, int other, int clash) {
        Run r = withNumber(0, 9);
        r.step(0, NONE, MAP, p(0), 1, one, 0);
        r.step(0, NONE, MAP, p(0), 1, other, 0);
        r.step(2, 1);
        r.due(clash, "clash", 0);
        for (int value = 0; value < 10; value++) {
            r.due(0, "record", 0);
            r.does("set", 0, p(0), value);
            r.due(1, "copy", 0);
            r.due(1, "translate", 0, 1);
            r.due(1, "translate", 1, 2);
            r.due(1, "translate", 1, 1);
            r.due(clash == 1 && value == 1 ? 0 : 1, "same", 0, 1);
            r.does("drop", 0);
            r.does("drop", 1);
        }
    }

    private static void lastCall() {
        says("An object is used for at most 512 calls after it has been made;");
        Run r = withNumber(0, 9);
        r.step(0, NONE, MAP, p(0), 4, 5, 0);
        r.does("record", 0);
        r.does("set", 0, p(0), 4);
        int v = 0;
        while (r.calls.size() < MAX_CALLS - 2) {
            v = 1 - v;
            r.dueMove(0, v, v == 0 ? 4 : 5, v);
        }
        r.due(1, "copy", 0);
        r.due(1, "same", 0, 1);
        if (r.calls.size() != MAX_CALLS) {
            fault("these were " + r.calls.size() + " calls", r);
        }
        // It leaves later calls free.
        passes("what later calls answer is free.");
    }

    private static void theClass() throws ReflectiveOperationException {
        says("## The public face public final class LensPaths {");
        need(Modifier.isPublic(LensPaths.class.getModifiers()), "the class is public");
        need(Modifier.isFinal(LensPaths.class.getModifiers()), "the class is final");

        says("public static final int NONE = -1;");
        int is = LensPaths.class.getField("NONE").getModifiers();
        need(Modifier.isStatic(is) && Modifier.isFinal(is), "NONE is static and final");
        need(LensPaths.class.getField("NONE").getType() == int.class, "NONE is an int");
        need(LensPaths.NONE == -1, "NONE is -1");
        Run r = new Run();
        r.due(-1, "count", 3);
        r.due(-1, "route", 0, 0, 1);
        r.does("begin", 0);
        r.due(1, "end", -1);

        says("public LensPaths();");
        need(LensPaths.class.getConstructors().length == 1, "there is one public constructor");
        need(LensPaths.class.getConstructor().getExceptionTypes().length == 0, "it throws nothing");
        new Run().due(1, "count", 0);
    }

    private static void need(boolean holds, String what) {
        if (!holds) {
            fault("not so: " + what);
        }
    }

    /** A line of the face, which the class must have just so. */
    private static void face(String line) throws ReflectiveOperationException {
        says(line);
        methods++;
        Matcher words = METHOD.matcher(line);
        if (!words.matches()) {
            fault("no method is told so");
            return;
        }
        String[] parameters = words.group(3).isEmpty() ? new String[0] : words.group(3).split(", ");
        Class<?>[] types = new Class<?>[parameters.length];
        for (int i = 0; i < types.length; i++) {
            need(parameters[i].startsWith("int "), "each parameter is an int");
            types[i] = int.class;
        }
        Method m = LensPaths.class.getMethod(words.group(2), types);
        StringBuilder named = new StringBuilder();
        for (Class<?> e : m.getExceptionTypes()) {
            named.append(named.length() == 0 ? "" : ", ").append(e.getSimpleName());
        }
        need(m.getReturnType().getSimpleName().equals(words.group(1)), "it answers " + words.group(1));
        need(!Modifier.isStatic(m.getModifiers()), "it is a method of an object");
        need(named.toString().equals(words.group(4) == null ? "" : words.group(4)), "it names what it throws");
    }

    private static void noMore() {
        says("}");
        int found = 0;
        for (Method m : LensPaths.class.getDeclaredMethods()) {
            found += Modifier.isPublic(m.getModifiers()) ? 1 : 0;
        }
        need(found == methods, "the public methods are those of the face, but they are " + found);
    }

    private static void ofSteps() throws ReflectiveOperationException {
        Run r = new Run();
        face("public int field(int path, int sort, int low, int high) throws IllegalStateException,"
                + " IllegalArgumentException;");
        r.due(1, "field", p(0), NUMBER, 0, 9);
        r.refuses(ARGUMENT, "field", p(0), NUMBER, 0, 9);
        r.due(0, "record", 0);
        r.refuses(STATE, "field", p(1), NUMBER, 0, 9);

        face("public void begin(int from) throws IndexOutOfBoundsException, IllegalStateException;");
        r.refuses(INDEX, "begin", 1);
        r.does("begin", 0);
        r.refuses(STATE, "begin", 0);

        face("public int primitive(int kind, int path, int a, int b, int c) throws IllegalStateException,"
                + " IllegalArgumentException;");
        r.refuses(ARGUMENT, "primitive", WRAP, p(1), 0, 0, 0);
        r.due(1, "primitive", WRAP, p(0), 0, 0, 0);

        face("public int end(int to) throws IllegalStateException, IndexOutOfBoundsException, IllegalArgumentException,"
                + " UnsupportedOperationException;");
        r.refuses(INDEX, "end", 1);
        r.refuses(ARGUMENT, "end", 0);
        r.due(1, "end", NONE);
        r.refuses(STATE, "end", NONE);
        r.refuses(STATE, "primitive", WRAP, p(0), 0, 0, 0);
        Run full = withVersions(8);
        full.does("begin", 0);
        full.refuses(UNSUPPORTED, "end", NONE);

        face("public boolean leave();");
        full.due(1, "leave");
        full.due(0, "leave");

        face("public int about(int version, int path, int what) throws IndexOutOfBoundsException,"
                + " IllegalArgumentException;");
        r.due(LIST, "about", 1, p(0), 0);
        r.refuses(INDEX, "about", 2, p(0), 0);
        r.refuses(ARGUMENT, "about", 1, p(0), 4);

        face("public int count(int what) throws IllegalArgumentException;");
        r.due(2, "count", 0);
        r.refuses(ARGUMENT, "count", 4);
    }

    private static void ofRecords() throws ReflectiveOperationException {
        Run r = withNumber(0, 9);
        face("public int record(int version) throws IndexOutOfBoundsException, UnsupportedOperationException;");
        r.due(0, "record", 0);
        r.refuses(INDEX, "record", 1);
        Run full = withRecords(16);
        full.refuses(UNSUPPORTED, "record", 0);

        face("public int copy(int h) throws IndexOutOfBoundsException, UnsupportedOperationException;");
        r.due(1, "copy", 0);
        r.refuses(INDEX, "copy", 2);
        full.refuses(UNSUPPORTED, "copy", 0);

        face("public void drop(int h) throws IndexOutOfBoundsException;");
        r.does("drop", 0);
        r.refuses(INDEX, "drop", 0);

        face("public void set(int h, int path, int value) throws IndexOutOfBoundsException, IllegalArgumentException;");
        r.does("set", 1, p(0), 5);
        r.refuses(INDEX, "set", 0, p(0), 5);
        r.refuses(ARGUMENT, "set", 1, p(0), 10);

        Run l = withList(0, 9);
        l.does("record", 0);
        face("public int put(int h, int path, int i, int value) throws IndexOutOfBoundsException,"
                + " IllegalArgumentException;");
        l.due(1, "put", 0, p(0), 0, 7);
        l.due(2, "put", 0, p(0), 1, 8);
        l.refuses(INDEX, "put", 1, p(0), 0, 7);
        l.refuses(ARGUMENT, "put", 0, p(0), 3, 7);

        face("public void cut(int h, int path, int n) throws IndexOutOfBoundsException, IllegalArgumentException;");
        l.does("cut", 0, p(0), 1);
        l.refuses(INDEX, "cut", 1, p(0), 0);
        l.refuses(ARGUMENT, "cut", 0, p(0), 2);

        face("public int get(int h, int path) throws IndexOutOfBoundsException, IllegalArgumentException;");
        r.due(5, "get", 1, p(0));
        r.refuses(INDEX, "get", 0, p(0));
        r.refuses(ARGUMENT, "get", 1, p(1));

        face("public int size(int h, int path) throws IndexOutOfBoundsException, IllegalArgumentException;");
        l.due(1, "size", 0, p(0));
        l.refuses(INDEX, "size", 1, p(0));
        l.refuses(ARGUMENT, "size", 0, p(1));

        face("public int item(int h, int path, int i) throws IndexOutOfBoundsException, IllegalArgumentException;");
        l.due(7, "item", 0, p(0), 0);
        l.refuses(INDEX, "item", 1, p(0), 0);
        l.refuses(ARGUMENT, "item", 0, p(0), 1);
    }

    private static void ofWays() throws ReflectiveOperationException {
        Run r = withNumber(0, 5);
        r.step(0, NONE, SPLIT, p(0), 4, 1, 0);
        r.does("record", 1);
        r.does("set", 0, p(0), 1);
        r.does("set", 0, p(1), 1);

        face("public int version(int h) throws IndexOutOfBoundsException;");
        r.due(1, "version", 0);
        r.refuses(INDEX, "version", 1);

        face("public int kept(int h) throws IndexOutOfBoundsException;");
        r.due(0, "kept", 0);
        r.refuses(INDEX, "kept", 1);

        face("public boolean same(int h, int other) throws IndexOutOfBoundsException;");
        r.does("record", 1);
        r.due(0, "same", 0, 1);
        r.due(1, "same", 1, 1);
        r.refuses(INDEX, "same", 0, 2);

        // Every version comes of a step from one before it, so that IllegalStateException cannot be reached.
        face("public int translate(int h, int version) throws IndexOutOfBoundsException, IllegalStateException,"
                + " ArithmeticException;");
        r.due(1, "translate", 0, 0);
        r.due(5, "get", 0, p(0));
        r.refuses(INDEX, "translate", 0, 2);
        r.does("set", 1, p(0), 1);
        r.does("set", 1, p(1), 2);
        r.refuses(ARITHMETIC, "translate", 1, 0);

        face("public int route(int from, int to, int k) throws IndexOutOfBoundsException;");
        r.due(1, "route", 0, 1, 1);
        r.refuses(INDEX, "route", 0, 2, 0);

        face("public int clash(int step) throws IndexOutOfBoundsException;");
        r.due(NONE, "clash", 0);
        r.refuses(INDEX, "clash", 1);
    }

    public static void main(String[] args) throws IOException, ReflectiveOperationException {
        whatItIs();
        lastCall();
        theClass();
        ofSteps();
        ofRecords();
        ofWays();
        noMore();
        finishWalk("# LensPaths", "## Terms");
    }
}
