/** Each promise of the document: ordinary inputs, the edges that it names, wrong inputs. */
public final class PromisesTest {
    private static final int NONE = LensPaths.NONE;
    private static final int MIN = Integer.MIN_VALUE;
    private static final int MAX = Integer.MAX_VALUE;
    private static final int RENAME = 0;
    private static final int ADD = 1;
    private static final int REMOVE = 2;
    private static final int WRAP = 3;
    private static final int LIFT = 4;
    private static final int SPLIT = 5;
    private static final int SCALE = 6;
    private static final int MAP = 7;
    private static final int SORT = 8;
    private static final String STATE = "IllegalStateException";
    private static final String ARGUMENT = "IllegalArgumentException";
    private static final String INDEX = "IndexOutOfBoundsException";
    private static final String ARITHMETIC = "ArithmeticException";
    private static final String UNSUPPORTED = "UnsupportedOperationException";

    private static int promise;
    private static int wrong;

    private interface Call {
        void make();
    }

    private static void due(String what, long got, long want) {
        if (got != want) {
            wrong++;
            System.out.println("promise " + promise + ": " + what + " answered " + got + ", due is " + want);
        }
    }

    private static void due(String what, boolean got, boolean want) {
        due(what, got ? 1 : 0, want ? 1 : 0);
    }

    private static void fails(String what, String want, Call call) {
        String got = "nothing";
        try {
            call.make();
        } catch (RuntimeException e) {
            got = e.getClass().getSimpleName();
        }
        if (!got.equals(want)) {
            wrong++;
            System.out.println("promise " + promise + ": " + what + " threw " + got + ", due is " + want);
        }
    }

    /** A path of names. */
    private static int p(int... names) {
        int path = 0;
        for (int i = 0; i < names.length; i++) {
            path |= names[i] + 1 << 7 * i;
        }
        return path;
    }

    /** Version 0 has the number 0 alone. */
    private static LensPaths withNumber(int low, int high) {
        LensPaths x = new LensPaths();
        x.field(p(0), 0, low, high);
        return x;
    }

    /** Version 0 has the list 0 alone. */
    private static LensPaths withList(int low, int high) {
        LensPaths x = new LensPaths();
        x.field(p(0), 1, low, high);
        return x;
    }

    /** A step of primitives, five numbers each. */
    private static int step(LensPaths x, int from, int to, int... n) {
        x.begin(from);
        for (int i = 0; i < n.length; i += 5) {
            x.primitive(n[i], n[i + 1], n[i + 2], n[i + 3], n[i + 4]);
        }
        return x.end(to);
    }

    private static void fill(LensPaths x, int h, int path, int... numbers) {
        x.cut(h, path, 0);
        for (int i = 0; i < numbers.length; i++) {
            x.put(h, path, i, numbers[i]);
        }
    }

    private static void dueList(String what, LensPaths x, int h, int path, int... numbers) {
        due(what + ": size", x.size(h, path), numbers.length);
        for (int i = 0; i < numbers.length && i < x.size(h, path); i++) {
            due(what + ": item " + i, x.item(h, path, i), numbers[i]);
        }
    }

    private static void dueMove(LensPaths x, int h, int version, int value, int kept) {
        x.translate(h, version);
        due("the number under version " + version, x.get(h, p(0)), value);
        due("things kept under version " + version, x.kept(h), kept);
    }

    private static void newObject() {
        promise = 1;
        LensPaths x = new LensPaths();
        due("NONE", LensPaths.NONE, -1);
        due("versions", x.count(0), 1);
        due("steps", x.count(1), 0);
        due("records", x.count(2), 0);
        due("primitives", x.count(3), NONE);
        due("fields", x.about(0, 0, 3), 0);
        due("sort of all", x.about(0, 0, 0), 2);
        due("fields of another object", new LensPaths().about(0, 0, 3), 0);
    }

    private static void field() {
        promise = 2;
        LensPaths x = new LensPaths();
        due("a number", x.field(p(99), 0, -5, 5), 1);
        due("a list", x.field(p(0), 1, 3, 3), 2);
        due("a record", x.field(p(7), 2, 9, 1), 3);
        due("in a record", x.field(p(7, 0), 2, 0, 0), 4);
        due("three deep", x.field(p(7, 0, 99), 2, 0, 0), 5);
        due("four deep", x.field(p(7, 0, 99, 1), 2, 0, 0), 6);
        due("the widest bounds", x.field(p(8), 0, MIN, MAX), 7);
        fails("the whole", ARGUMENT, () -> x.field(0, 0, 0, 1));
        fails("the name 100", ARGUMENT, () -> x.field(101, 0, 0, 1));
        fails("a gap", ARGUMENT, () -> x.field(1 << 7, 0, 0, 1));
        fails("a gap behind a record", ARGUMENT, () -> x.field(p(7) | 1 << 14, 0, 0, 1));
        fails("a fifth name", ARGUMENT, () -> x.field(p(7, 0, 99, 1) | 1 << 28, 0, 0, 1));
        fails("a high bit", ARGUMENT, () -> x.field(p(1) | MIN, 0, 0, 1));
        fails("in no record", ARGUMENT, () -> x.field(p(3, 1), 0, 0, 1));
        fails("in a number", ARGUMENT, () -> x.field(p(99, 1), 0, 0, 1));
        fails("in a list", ARGUMENT, () -> x.field(p(0, 1), 0, 0, 1));
        fails("a name that is there", ARGUMENT, () -> x.field(p(99), 0, 0, 1));
        fails("a name that is there, inside", ARGUMENT, () -> x.field(p(7, 0), 2, 0, 1));
        fails("sort 3", ARGUMENT, () -> x.field(p(1), 3, 0, 1));
        fails("sort -1", ARGUMENT, () -> x.field(p(1), -1, 0, 1));
        fails("a number's bounds", ARGUMENT, () -> x.field(p(1), 0, 1, 0));
        fails("a list's bounds", ARGUMENT, () -> x.field(p(1), 1, 1, 0));
        due("what threw changed nothing", x.about(0, 0, 3), 7);
        for (int name = 20; name < 37; name++) {
            x.field(p(name), 0, 0, 1);
        }
        due("24 fields", x.about(0, 0, 3), 24);
        fails("25 fields", STATE, () -> x.field(p(50), 0, 0, 1));
        fails("25 fields, wrong too", STATE, () -> x.field(p(50), 3, 0, 1));

        LensPaths began = new LensPaths();
        began.begin(0);
        began.leave();
        fails("behind a step that was left", STATE, () -> began.field(p(1), 0, 0, 1));
        LensPaths recorded = new LensPaths();
        recorded.drop(recorded.record(0));
        fails("behind a record that was dropped", STATE, () -> recorded.field(p(1), 0, 0, 1));
        LensPaths neither = new LensPaths();
        fails("a begin that throws", INDEX, () -> neither.begin(1));
        fails("a record that throws", INDEX, () -> neither.record(1));
        due("behind calls that threw", neither.field(p(1), 0, 0, 1), 1);
    }

    private static void begin() {
        promise = 3;
        LensPaths x = withNumber(0, 9);
        fails("version 1", INDEX, () -> x.begin(1));
        fails("version -1", INDEX, () -> x.begin(-1));
        x.begin(0);
        due("primitives", x.count(3), 0);
        fails("a second one", STATE, () -> x.begin(0));
        fails("a second one, of no version", INDEX, () -> x.begin(1));
        x.primitive(WRAP, p(0), 0, 0, 0);
        x.leave();
        x.begin(0);
        due("primitives anew", x.count(3), 0);
        due("the schema is the version's again", x.primitive(WRAP, p(0), 0, 0, 0), 1);
    }

    private static void primitive() {
        promise = 4;
        LensPaths x = withNumber(0, 9);
        fails("none under way", STATE, () -> x.primitive(9, 0, 0, 0, 0));
        x.begin(0);
        for (int i = 1; i <= 8; i++) {
            due("primitive " + i, x.primitive(MAP, p(0), 1, 2, 0), i);
        }
        fails("a ninth one", STATE, () -> x.primitive(9, 0, 0, 0, 0));
        due("eight stay", x.count(3), 8);
        x.leave();
        x.begin(0);
        fails("kind 9", ARGUMENT, () -> x.primitive(9, p(0), 1, 2, 0));
        fails("kind -1", ARGUMENT, () -> x.primitive(-1, p(0), 1, 2, 0));
        for (int kind = 0; kind < 9; kind++) {
            int k = kind;
            fails("kind " + k + " on the whole", ARGUMENT, () -> x.primitive(k, 0, 2, 2, 2));
            fails("kind " + k + " nowhere", ARGUMENT, () -> x.primitive(k, 101, 2, 2, 2));
            if (k != ADD) {
                fails("kind " + k + " on nothing", ARGUMENT, () -> x.primitive(k, p(5), 2, 3, 2));
            }
        }
        due("none of these was done", x.count(3), 0);
    }

    private static LensPaths forKinds() {
        LensPaths x = new LensPaths();
        x.field(p(0), 0, -5, 9);
        x.field(p(1), 1, -5, 9);
        x.field(p(2), 2, 0, 0);
        x.field(p(2, 3), 2, 0, 0);
        x.field(p(2, 3, 4), 0, 1, 2);
        x.field(p(2, 3, 1), 0, 3, 4);
        x.field(p(2, 3, 3), 0, 3, 4);
        x.field(p(5), 2, 0, 0);
        x.begin(0);
        return x;
    }

    private static void kindsRefused() {
        promise = 4;
        LensPaths x = forKinds();
        fails("RENAME to a name that is there", ARGUMENT, () -> x.primitive(RENAME, p(0), 1, 0, 0));
        fails("RENAME to its own name", ARGUMENT, () -> x.primitive(RENAME, p(0), 0, 0, 0));
        fails("RENAME to 100", ARGUMENT, () -> x.primitive(RENAME, p(0), 100, 0, 0));
        fails("RENAME to -1", ARGUMENT, () -> x.primitive(RENAME, p(0), -1, 0, 0));
        fails("ADD where one is", ARGUMENT, () -> x.primitive(ADD, p(0), 0, 0, 1));
        fails("ADD in a number", ARGUMENT, () -> x.primitive(ADD, p(0, 1), 0, 0, 1));
        fails("ADD in no record", ARGUMENT, () -> x.primitive(ADD, p(6, 1), 0, 0, 1));
        fails("ADD of sort 3", ARGUMENT, () -> x.primitive(ADD, p(6), 3, 0, 1));
        fails("ADD of sort -1", ARGUMENT, () -> x.primitive(ADD, p(6), -1, 0, 1));
        fails("ADD of bounds", ARGUMENT, () -> x.primitive(ADD, p(6), 1, 1, 0));
        fails("REMOVE a record with fields", ARGUMENT, () -> x.primitive(REMOVE, p(2), 0, 0, 0));
        fails("WRAP a list", ARGUMENT, () -> x.primitive(WRAP, p(1), 0, 0, 0));
        fails("WRAP a record", ARGUMENT, () -> x.primitive(WRAP, p(5), 0, 0, 0));
        fails("LIFT out of the whole", ARGUMENT, () -> x.primitive(LIFT, p(0), 0, 0, 0));
        fails("LIFT to the record's own name", ARGUMENT, () -> x.primitive(LIFT, p(2, 3, 3), 0, 0, 0));
        fails("SPLIT a list", ARGUMENT, () -> x.primitive(SPLIT, p(1), 2, 9, 0));
        fails("SPLIT by 1", ARGUMENT, () -> x.primitive(SPLIT, p(0), 1, 9, 0));
        fails("SPLIT by 1001", ARGUMENT, () -> x.primitive(SPLIT, p(0), 1001, 9, 0));
        fails("SPLIT with a name that is there", ARGUMENT, () -> x.primitive(SPLIT, p(0), 2, 1, 0));
        fails("SPLIT with its own name", ARGUMENT, () -> x.primitive(SPLIT, p(0), 2, 0, 0));
        fails("SPLIT with the name 100", ARGUMENT, () -> x.primitive(SPLIT, p(0), 2, 100, 0));
        fails("SPLIT with the name -1", ARGUMENT, () -> x.primitive(SPLIT, p(0), 2, -1, 0));
        fails("SCALE a list", ARGUMENT, () -> x.primitive(SCALE, p(1), 2, 3, 0));
        fails("SCALE by 0", ARGUMENT, () -> x.primitive(SCALE, p(0), 0, 3, 0));
        fails("SCALE by 1001", ARGUMENT, () -> x.primitive(SCALE, p(0), 1001, 3, 0));
        fails("SCALE through 0", ARGUMENT, () -> x.primitive(SCALE, p(0), 3, 0, 0));
        fails("SCALE through 1001", ARGUMENT, () -> x.primitive(SCALE, p(0), 3, 1001, 0));
        fails("MAP a list", ARGUMENT, () -> x.primitive(MAP, p(1), 2, 3, 0));
        fails("MAP from outside", ARGUMENT, () -> x.primitive(MAP, p(0), 10, 3, 0));
        fails("MAP to outside", ARGUMENT, () -> x.primitive(MAP, p(0), 3, -6, 0));
        fails("MAP to itself", ARGUMENT, () -> x.primitive(MAP, p(0), 3, 3, 0));
        fails("SORT a number", ARGUMENT, () -> x.primitive(SORT, p(0), 0, 0, 0));
        fails("SORT a record", ARGUMENT, () -> x.primitive(SORT, p(5), 0, 0, 0));
        due("none of these was done", x.end(NONE), 1);
        due("the schema stays", x.about(1, 0, 3), 8);
        x.begin(0);
        due("just the schema", x.end(1), 1);
    }

    private static void dueField(LensPaths x, int v, int path, int sort, int low, int high) {
        due("sort", x.about(v, path, 0), sort);
        due("low", x.about(v, path, 1), low);
        due("high", x.about(v, path, 2), high);
    }

    private static void kindsDone() {
        promise = 4;
        LensPaths x = forKinds();
        due("RENAME", x.primitive(RENAME, p(2), 99, MIN, MAX), 1);
        due("LIFT", x.primitive(LIFT, p(99, 3), MIN, 0, 0), 2);
        due("REMOVE the empty record", x.primitive(REMOVE, p(99), 0, 0, 0), 3);
        due("LIFT where the name was another's", x.primitive(LIFT, p(3, 4), 0, 0, 0), 4);
        due("SPLIT", x.primitive(SPLIT, p(0), 2, 99, MAX), 5);
        due("SCALE", x.primitive(SCALE, p(0), 1000, 999, 0), 6);
        due("ADD a record", x.primitive(ADD, p(5, 0), 2, 9, 1), 7);
        due("WRAP", x.primitive(WRAP, p(3, 1), 0, 0, 0), 8);
        due("the new version", x.end(NONE), 1);
        due("fields", x.about(1, 0, 3), 9);
        dueField(x, 1, p(0), 0, -4, 4);
        dueField(x, 1, p(99), 0, 0, 1);
        dueField(x, 1, p(1), 1, -5, 9);
        dueField(x, 1, p(2), NONE, 0, 0);
        dueField(x, 1, p(3), 2, 0, 0);
        dueField(x, 1, p(3, 1), 1, 3, 4);
        dueField(x, 1, p(3, 3), 0, 3, 4);
        dueField(x, 1, p(4), 0, 1, 2);
        dueField(x, 1, p(5, 0), 2, 0, 0);
        due("in the lifted record", x.about(1, p(3), 3), 2);

        LensPaths y = withNumber(-7, MAX);
        y.begin(0);
        fails("SCALE beyond ints", ARGUMENT, () -> y.primitive(SCALE, p(0), 2, 1, 0));
        due("SPLIT bounds, rounded down", y.primitive(SPLIT, p(0), 1000, 1, 0), 1);
        due("SCALE to what ints hold", y.primitive(SCALE, p(0), 1000, 1, 0), 2);
        due("SCALE by a part", y.primitive(SCALE, p(0), 1, 3, 0), 3);
        due("MAP at the bounds", y.primitive(MAP, p(1), 0, 999, 0), 4);
        y.end(NONE);
        dueField(y, 1, p(0), 0, -334, 715827666);
        dueField(y, 1, p(1), 0, 0, 999);
        LensPaths low = withNumber(MIN, 0);
        low.begin(0);
        fails("SCALE below ints", ARGUMENT, () -> low.primitive(SCALE, p(0), 1000, 999, 0));
        due("SCALE by the same", low.primitive(SCALE, p(0), 1000, 1000, 0), 1);
    }

    private static void fieldsOfPrimitives() {
        promise = 4;
        LensPaths x = new LensPaths();
        for (int name = 0; name < 24; name++) {
            x.field(p(name), name == 0 ? 2 : 0, 0, 9);
        }
        x.begin(0);
        fails("ADD a 25th", ARGUMENT, () -> x.primitive(ADD, p(30), 0, 0, 1));
        fails("SPLIT to 25", ARGUMENT, () -> x.primitive(SPLIT, p(1), 2, 30, 0));
        due("WRAP takes no field", x.primitive(WRAP, p(2), 0, 0, 0), 1);
        due("REMOVE", x.primitive(REMOVE, p(0), 0, 0, 0), 2);
        due("SPLIT to 24", x.primitive(SPLIT, p(1), 2, 30, 0), 3);
        fails("ADD a 25th again", ARGUMENT, () -> x.primitive(ADD, p(31), 0, 0, 1));
        due("REMOVE the rest", x.primitive(REMOVE, p(30), 0, 0, 0), 4);
        due("ADD to 24", x.primitive(ADD, p(31), 0, 0, 1), 5);
        x.end(NONE);
        due("24", x.about(1, 0, 3), 24);
        step(x, 0, NONE, RENAME, p(23), 99, 0, 0);
        step(x, 2, 0, RENAME, p(99), 23, 0, 0);
        due("a record of 24", x.get(x.record(2), p(99)), 0);
        due("one step of 24 against another", x.clash(2), 0);
    }

    private static void end() {
        promise = 5;
        LensPaths x = withNumber(0, 9);
        fails("none under way", STATE, () -> x.end(NONE));
        fails("none under way, no version", STATE, () -> x.end(7));
        x.begin(0);
        fails("no version", INDEX, () -> x.end(1));
        fails("version -2", INDEX, () -> x.end(-2));
        fails("where it comes from", ARGUMENT, () -> x.end(0));
        due("it is under way still", x.count(3), 0);
        due("a new version", x.end(NONE), 1);
        due("it is no more under way", x.count(3), NONE);
        due("one with the schema", step(x, 1, 0, RENAME, p(0), 5, 0, 0, RENAME, p(5), 0, 0, 0), 0);
        due("steps", x.count(1), 2);
        int[] others = {RENAME, 0, SPLIT, 0, WRAP, 0, SCALE, 0, ADD, 1, REMOVE, 0};
        for (int i = 0; i < others.length; i += 2) {
            x.begin(0);
            x.primitive(others[i], p(others[i + 1]), 2, 1, 3);
            fails("another schema by kind " + others[i], ARGUMENT, () -> x.end(1));
            x.leave();
        }
        for (int v = 2; v < 8; v++) {
            due("version " + v, step(x, 0, NONE), v);
        }
        x.begin(0);
        fails("a ninth version", UNSUPPORTED, () -> x.end(NONE));
        due("it may lead elsewhere", x.end(7), 7);
        while (x.count(1) < 16) {
            step(x, 3, 4);
        }
        x.begin(0);
        fails("a 17th step", UNSUPPORTED, () -> x.end(5));
        fails("a 17th step to where it comes from", ARGUMENT, () -> x.end(0));
        fails("a 17th step to no version", INDEX, () -> x.end(8));
        due("left", x.leave(), true);
        due("steps", x.count(1), 16);

        LensPaths few = withNumber(0, 9);
        step(few, 0, NONE);
        while (few.count(1) < 16) {
            step(few, 0, 1);
        }
        few.begin(0);
        fails("a 17th step to a new version", UNSUPPORTED, () -> few.end(NONE));
        due("no version came of it", few.count(0), 2);
    }

    private static void leave() {
        promise = 6;
        LensPaths x = withNumber(0, 9);
        due("without one", x.leave(), false);
        x.begin(0);
        x.primitive(WRAP, p(0), 0, 0, 0);
        due("with one", x.leave(), true);
        due("again", x.leave(), false);
        fails("it is none any more", STATE, () -> x.end(NONE));
        due("versions", x.count(0), 1);
        step(x, 0, NONE);
        due("behind an end", x.leave(), false);
    }

    private static void about() {
        promise = 7;
        LensPaths x = forKinds();
        dueField(x, 0, 0, 2, 0, 0);
        due("all fields", x.about(0, 0, 3), 8);
        dueField(x, 0, p(0), 0, -5, 9);
        dueField(x, 0, p(1), 1, -5, 9);
        dueField(x, 0, p(2, 3), 2, 0, 0);
        dueField(x, 0, p(2, 3, 4), 0, 1, 2);
        dueField(x, 0, p(9), NONE, 0, 0);
        dueField(x, 0, p(2, 4), NONE, 0, 0);
        dueField(x, 0, -1, NONE, 0, 0);
        due("in a record, at any depth", x.about(0, p(2), 3), 4);
        due("in a record in it", x.about(0, p(2, 3), 3), 3);
        due("in an empty record", x.about(0, p(5), 3), 0);
        due("in a number", x.about(0, p(0), 3), 0);
        due("in none", x.about(0, p(9), 3), 0);
        due("nowhere", x.about(0, -1, 3), 0);
        due("behind a gap", x.about(0, 1 << 7, 3), 0);
        fails("no version", INDEX, () -> x.about(1, 0, 0));
        fails("no version, wrong what", INDEX, () -> x.about(-1, 0, 4));
        fails("what 4", ARGUMENT, () -> x.about(0, 0, 4));
        fails("what -1", ARGUMENT, () -> x.about(0, p(9), -1));
    }

    private static void count() {
        promise = 8;
        LensPaths x = withNumber(0, 9);
        step(x, 0, NONE);
        step(x, 1, 0);
        step(x, 1, NONE);
        x.record(0);
        x.drop(x.record(1));
        x.record(2);
        x.copy(0);
        x.begin(0);
        x.primitive(WRAP, p(0), 0, 0, 0);
        due("versions", x.count(0), 3);
        due("steps", x.count(1), 3);
        due("records", x.count(2), 3);
        due("primitives", x.count(3), 1);
        fails("what 4", ARGUMENT, () -> x.count(4));
        fails("what -1", ARGUMENT, () -> x.count(-1));
    }

    private static void record() {
        promise = 9;
        LensPaths x = new LensPaths();
        x.field(p(0), 0, 3, 9);
        x.field(p(1), 0, -9, -2);
        x.field(p(2), 0, -4, 4);
        x.field(p(3), 1, 3, 9);
        step(x, 0, NONE, ADD, p(4), 0, 5, 6);
        for (int h = 0; h < 16; h++) {
            due("handle", x.record(h % 2), h);
        }
        fails("a 17th", UNSUPPORTED, () -> x.record(0));
        fails("a 17th, of no version", INDEX, () -> x.record(2));
        fails("of version -1", INDEX, () -> x.record(-1));
        due("the default above 0", x.get(0, p(0)), 3);
        due("the default below 0", x.get(0, p(1)), -2);
        due("the default round 0", x.get(0, p(2)), 0);
        due("the default list", x.size(0, p(3)), 0);
        due("its version", x.version(1), 1);
        due("its field", x.get(1, p(4)), 5);
        x.set(7, p(4), 6);
        x.set(7, p(0), 8);
        x.put(7, p(3), 0, 4);
        x.translate(7, 0);
        due("something kept", x.kept(7), 1);
        x.drop(7);
        x.drop(9);
        due("the least that is free", x.record(1), 7);
        due("all default", x.same(7, 1), true);
        due("nothing kept", x.kept(7), 0);
        due("the next that is free", x.record(1), 9);
    }

    private static void copy() {
        promise = 10;
        LensPaths x = withNumber(0, 99);
        step(x, 0, NONE, ADD, p(1), 1, 0, 9);
        int h = x.record(1);
        x.record(0);
        x.set(h, p(0), 42);
        fill(x, h, p(1), 3, 1, 2);
        x.translate(h, 0);
        x.record(1);
        x.drop(1);
        due("the least that is free", x.copy(h), 1);
        due("the same", x.same(h, 1), true);
        due("with what is kept", x.kept(1), 1);
        x.set(1, p(0), 7);
        due("the other one stays", x.get(h, p(0)), 42);
        x.translate(1, 1);
        dueList("what was kept comes", x, 1, p(1), 3, 1, 2);
        due("and is kept for the other one still", x.kept(h), 1);
        x.translate(h, 1);
        dueList("it comes there too", x, h, p(1), 3, 1, 2);
        fails("no record", INDEX, () -> x.copy(3));
        fails("handle -1", INDEX, () -> x.copy(-1));
        fails("handle 16", INDEX, () -> x.copy(16));
        while (x.count(2) < 16) {
            x.copy(h);
        }
        fails("a 17th", UNSUPPORTED, () -> x.copy(h));
        fails("a 17th of none", INDEX, () -> x.copy(16));
    }

    private static void drop() {
        promise = 11;
        LensPaths x = withNumber(0, 9);
        fails("none yet", INDEX, () -> x.drop(0));
        x.record(0);
        x.record(0);
        x.drop(0);
        due("records", x.count(2), 1);
        fails("again", INDEX, () -> x.drop(0));
        fails("handle -1", INDEX, () -> x.drop(-1));
        fails("handle 16", INDEX, () -> x.drop(16));
        fails("set", INDEX, () -> x.set(0, p(0), 1));
        fails("put", INDEX, () -> x.put(0, p(0), 0, 1));
        fails("cut", INDEX, () -> x.cut(0, p(0), 0));
        fails("get", INDEX, () -> x.get(0, p(0)));
        fails("size", INDEX, () -> x.size(0, p(0)));
        fails("item", INDEX, () -> x.item(0, p(0), 0));
        fails("version", INDEX, () -> x.version(0));
        fails("kept", INDEX, () -> x.kept(0));
        fails("same", INDEX, () -> x.same(0, 1));
        fails("same, the other one", INDEX, () -> x.same(1, 0));
        fails("translate", INDEX, () -> x.translate(0, 0));
        due("the other one stays", x.get(1, p(0)), 0);
    }

    private static LensPaths forValues() {
        LensPaths x = new LensPaths();
        x.field(p(1), 0, -3, 7);
        x.field(p(2), 1, 4, 8);
        x.field(p(3), 2, 0, 0);
        x.field(p(3, 1), 0, MIN, MAX);
        x.record(0);
        return x;
    }

    private static void setAndGet() {
        LensPaths x = forValues();
        promise = 12;
        x.set(0, p(1), -3);
        due("low", x.get(0, p(1)), -3);
        x.set(0, p(1), 7);
        due("high", x.get(0, p(1)), 7);
        x.set(0, p(3, 1), MIN);
        due("inside", x.get(0, p(3, 1)), MIN);
        due("beside", x.get(0, p(1)), 7);
        fails("below", ARGUMENT, () -> x.set(0, p(1), -4));
        fails("above", ARGUMENT, () -> x.set(0, p(1), 8));
        fails("a list", ARGUMENT, () -> x.set(0, p(2), 5));
        fails("a record", ARGUMENT, () -> x.set(0, p(3), 0));
        fails("the whole", ARGUMENT, () -> x.set(0, 0, 0));
        fails("nothing there", ARGUMENT, () -> x.set(0, p(4), 0));
        fails("nowhere", ARGUMENT, () -> x.set(0, -1, 0));
        fails("no handle", INDEX, () -> x.set(1, p(1), 0));
        fails("handle -1, nowhere", INDEX, () -> x.set(-1, -1, 0));
        fails("handle 16", INDEX, () -> x.set(16, p(1), 0));
        due("it stays", x.get(0, p(1)), 7);
        promise = 15;
        fails("a list", ARGUMENT, () -> x.get(0, p(2)));
        fails("a record", ARGUMENT, () -> x.get(0, p(3)));
        fails("the whole", ARGUMENT, () -> x.get(0, 0));
        fails("nothing there", ARGUMENT, () -> x.get(0, p(4)));
        fails("no handle", INDEX, () -> x.get(1, -1));
        fails("handle -1", INDEX, () -> x.get(-1, p(1)));
        fails("handle 16", INDEX, () -> x.get(16, p(1)));
    }

    private static void lists() {
        LensPaths x = forValues();
        promise = 13;
        for (int i = 0; i < 6; i++) {
            due("behind the last", x.put(0, p(2), i, 4 + i % 5), i + 1);
        }
        due("in the middle", x.put(0, p(2), 2, 8), 6);
        dueList("all", x, 0, p(2), 4, 5, 8, 7, 8, 4);
        fails("a seventh", ARGUMENT, () -> x.put(0, p(2), 6, 5));
        fails("place -1", ARGUMENT, () -> x.put(0, p(2), -1, 5));
        fails("below", ARGUMENT, () -> x.put(0, p(2), 0, 3));
        fails("above", ARGUMENT, () -> x.put(0, p(2), 0, 9));
        fails("a number", ARGUMENT, () -> x.put(0, p(1), 0, 5));
        fails("a record", ARGUMENT, () -> x.put(0, p(3), 0, 0));
        fails("nothing there", ARGUMENT, () -> x.put(0, p(4), 0, 5));
        fails("no handle", INDEX, () -> x.put(1, p(4), 0, 5));
        promise = 14;
        x.cut(0, p(2), 6);
        due("all of them", x.size(0, p(2)), 6);
        x.cut(0, p(2), 2);
        dueList("two of them", x, 0, p(2), 4, 5);
        fails("more than there are", ARGUMENT, () -> x.cut(0, p(2), 3));
        fails("fewer than none", ARGUMENT, () -> x.cut(0, p(2), -1));
        fails("a number", ARGUMENT, () -> x.cut(0, p(1), 0));
        fails("nothing there", ARGUMENT, () -> x.cut(0, p(4), 0));
        fails("no handle", INDEX, () -> x.cut(1, p(4), 0));
        promise = 13;
        fails("a place behind the next", ARGUMENT, () -> x.put(0, p(2), 3, 5));
        due("the next place", x.put(0, p(2), 2, 6), 3);
        promise = 14;
        x.cut(0, p(2), 0);
        due("none of them", x.size(0, p(2)), 0);
        promise = 16;
        fails("a number", ARGUMENT, () -> x.size(0, p(1)));
        fails("a record", ARGUMENT, () -> x.size(0, p(3)));
        fails("nothing there", ARGUMENT, () -> x.size(0, p(4)));
        fails("no handle", INDEX, () -> x.size(1, p(4)));
        promise = 17;
        fill(x, 0, p(2), 5, 6);
        due("the last", x.item(0, p(2), 1), 6);
        fails("behind the last", ARGUMENT, () -> x.item(0, p(2), 2));
        fails("place -1", ARGUMENT, () -> x.item(0, p(2), -1));
        fails("a number", ARGUMENT, () -> x.item(0, p(1), 0));
        fails("nothing there", ARGUMENT, () -> x.item(0, p(4), 0));
        fails("no handle", INDEX, () -> x.item(1, p(4), 0));
    }

    private static void versionOfRecord() {
        promise = 18;
        LensPaths x = withNumber(0, 9);
        step(x, 0, NONE);
        step(x, 1, NONE);
        x.record(0);
        x.record(2);
        due("the first", x.version(0), 0);
        due("the second", x.version(1), 2);
        x.translate(0, 2);
        due("translated", x.version(0), 2);
        fails("none", INDEX, () -> x.version(2));
        fails("handle -1", INDEX, () -> x.version(-1));
    }

    private static void kept() {
        promise = 19;
        LensPaths x = withNumber(0, 99);
        step(x, 0, NONE, REMOVE, p(0), 0, 0, 0, ADD, p(0), 0, 0, 9, ADD, p(1), 1, 0, 9);
        x.record(0);
        due("nothing", x.kept(0), 0);
        x.translate(0, 1);
        due("a default is not kept", x.kept(0), 0);
        x.translate(0, 0);
        x.set(0, p(0), 50);
        x.translate(0, 1);
        due("one thing", x.kept(0), 1);
        x.set(0, p(0), 4);
        x.put(0, p(1), 0, 0);
        x.translate(0, 0);
        due("two others", x.kept(0), 2);
        due("it came back", x.get(0, p(0)), 50);
        x.set(0, p(0), 0);
        x.translate(0, 1);
        due("all came", x.kept(0), 0);
        due("the number", x.get(0, p(0)), 4);
        dueList("the list", x, 0, p(1), 0);
        fails("none", INDEX, () -> x.kept(1));
        fails("handle 16", INDEX, () -> x.kept(16));
    }

    private static void same() {
        promise = 20;
        LensPaths x = forValues();
        step(x, 0, NONE, ADD, p(9), 0, 0, 5);
        step(x, 0, NONE);
        x.record(0);
        due("two new ones", x.same(0, 1), true);
        due("itself", x.same(0, 0), true);
        x.set(0, p(3, 1), 1);
        due("another number", x.same(0, 1), false);
        x.set(1, p(3, 1), 1);
        x.set(1, p(1), 1);
        due("another first number", x.same(0, 1), false);
        x.set(1, p(1), 0);
        x.set(1, p(3, 1), 1);
        due("the same number", x.same(0, 1), true);
        fill(x, 0, p(2), 4, 5);
        fill(x, 1, p(2), 4, 5, 6);
        due("another length", x.same(0, 1), false);
        x.cut(1, p(2), 2);
        due("the same list, whatever was behind it", x.same(0, 1), true);
        x.put(1, p(2), 1, 6);
        due("another list", x.same(0, 1), false);
        x.put(1, p(2), 1, 5);
        x.translate(0, 1);
        x.set(0, p(9), 3);
        x.translate(0, 0);
        due("whatever is kept", x.same(0, 1), true);
        due("something is", x.kept(0) - x.kept(1), 1);
        x.translate(0, 2);
        due("another version with the same schema", x.same(0, 1), false);
        fails("no other", INDEX, () -> x.same(0, 2));
        fails("none", INDEX, () -> x.same(-1, 0));
    }

    private static void translateWays() {
        promise = 21;
        LensPaths x = withNumber(0, 99);
        x.record(0);
        due("to itself", x.translate(0, 0), 0);
        fails("no version", INDEX, () -> x.translate(0, 1));
        fails("no version -1", INDEX, () -> x.translate(0, -1));
        fails("no record", INDEX, () -> x.translate(1, 0));
        step(x, 0, NONE, RENAME, p(0), 4, 0, 0);
        step(x, 1, NONE, RENAME, p(4), 2, 0, 0);
        step(x, 1, 2, ADD, p(1), 0, 0, 0, REMOVE, p(4), 0, 0, 0, ADD, p(2), 0, 0, 99, REMOVE, p(1), 0, 0, 0);
        x.set(0, p(0), 33);
        due("two steps forth, the first of two", x.translate(0, 2), 2);
        due("the number goes along", x.get(0, p(2)), 33);
        due("one step back", x.translate(0, 1), 1);
        due("the number under its name there", x.get(0, p(4)), 33);
        fails("the name behind the step", ARGUMENT, () -> x.get(0, p(2)));
        due("one more", x.translate(0, 0), 1);
        due("the number as before", x.get(0, p(0)), 33);
    }

    private static void places() {
        promise = 21;
        LensPaths x = new LensPaths();
        x.field(p(5), 2, 0, 0);
        x.field(p(5, 1), 2, 0, 0);
        x.field(p(5, 1, 7), 0, 0, 9);
        x.field(p(5, 1, 8), 1, 0, 9);
        x.field(p(3), 0, 0, 9);
        x.record(0);
        x.set(0, p(5, 1, 7), 6);
        fill(x, 0, p(5, 1, 8), 2, 1);
        x.set(0, p(3), 4);
        step(x, 0, NONE, LIFT, p(5, 1), 0, 0, 0, RENAME, p(1), 9, 0, 0, LIFT, p(9, 7), 0, 0, 0,
                RENAME, p(3), 60, 0, 0, REMOVE, p(5), 0, 0, 0);
        x.translate(0, 1);
        due("lifted twice", x.get(0, p(7)), 6);
        dueList("lifted once", x, 0, p(9, 8), 2, 1);
        due("renamed", x.get(0, p(60)), 4);
        x.set(0, p(7), 5);
        due("nothing is kept for places", x.kept(0), 0);
        x.translate(0, 0);
        due("back in its place", x.get(0, p(5, 1, 7)), 5);
        dueList("back in its place", x, 0, p(5, 1, 8), 2, 1);
        due("back under its name", x.get(0, p(3)), 4);
    }

    private static void addAndRemove() {
        promise = 21;
        LensPaths x = withNumber(5, 99);
        step(x, 0, NONE, ADD, p(1), 1, 0, 9, REMOVE, p(0), 0, 0, 0);
        step(x, 0, NONE);
        step(x, 2, 1, REMOVE, p(0), 0, 0, 0, ADD, p(1), 1, 0, 9);
        x.record(0);
        x.set(0, p(0), 60);
        x.translate(0, 1);
        due("kept for REMOVE forth", x.kept(0), 1);
        fill(x, 0, p(1), 7, 7);
        x.translate(0, 2);
        due("another step has kept nothing for the number", x.get(0, p(0)), 5);
        due("each keeps its own", x.kept(0), 2);
        x.translate(0, 1);
        dueList("ADD forth of what was kept", x, 0, p(1), 7, 7);
        x.translate(0, 0);
        due("REMOVE back of what was kept", x.get(0, p(0)), 60);
        x.translate(0, 2);
        x.set(0, p(0), 61);
        x.translate(0, 1);
        due("by the other step", x.kept(0), 2);
        x.cut(0, p(1), 0);
        x.translate(0, 2);
        due("behind it", x.get(0, p(0)), 61);
        due("a list without numbers is not kept", x.kept(0), 1);
        x.translate(0, 0);
        x.set(0, p(0), 5);
        x.translate(0, 1);
        dueList("the first step's list", x, 0, p(1), 7, 7);
        due("nothing kept anew", x.kept(0), 0);
        x.translate(0, 0);
        due("the list again", x.kept(0), 1);
        x.translate(0, 2);
        x.translate(0, 1);
        x.translate(0, 0);
        due("gone with the way back, as it is the default now", x.kept(0), 0);
    }

    private static void defaults() {
        promise = 21;
        LensPaths x = withNumber(-5, 5);
        step(x, 0, NONE, REMOVE, p(0), 0, 0, 0, ADD, p(0), 0, -7, 7);
        x.record(0);
        dueMove(x, 0, 1, 0, 0);
        x.set(0, p(0), -7);
        dueMove(x, 0, 0, 0, 1);
        x.set(0, p(0), -5);
        dueMove(x, 0, 1, -7, 1);
        x.set(0, p(0), 0);
        dueMove(x, 0, 0, -5, 0);
    }

    private static void wrap() {
        promise = 21;
        LensPaths x = withNumber(-9, -2);
        step(x, 0, NONE, WRAP, p(0), 0, 0, 0);
        x.record(0);
        x.set(0, p(0), -5);
        x.translate(0, 1);
        dueList("of x alone", x, 0, p(0), -5);
        dueMove(x, 0, 0, -5, 0);
        x.translate(0, 1);
        fill(x, 0, p(0), -3, -4, -3);
        dueMove(x, 0, 0, -3, 1);
        x.set(0, p(0), -8);
        x.translate(0, 1);
        dueList("x in the first place", x, 0, p(0), -8, -4, -3);
        due("kept no more", x.kept(0), 0);
        x.cut(0, p(0), 0);
        dueMove(x, 0, 0, -2, 1);
        x.translate(0, 1);
        dueList("without numbers, as x is the default", x, 0, p(0));
        due("kept no more", x.kept(0), 0);
        dueMove(x, 0, 0, -2, 1);
        x.set(0, p(0), -9);
        x.translate(0, 1);
        dueList("of x alone, as x is another one", x, 0, p(0), -9);
        due("kept no more", x.kept(0), 0);
    }

    private static void split() {
        promise = 21;
        LensPaths x = withNumber(-25, 31);
        step(x, 0, NONE, SPLIT, p(0), 10, 3, 0);
        x.record(0);
        x.set(0, p(0), -21);
        dueMove(x, 0, 1, -3, 0);
        due("the rest", x.get(0, p(3)), 9);
        dueMove(x, 0, 0, -21, 0);
        x.translate(0, 1);
        x.set(0, p(3), 4);
        fails("below the bounds", ARITHMETIC, () -> x.translate(0, 0));
        due("it is as before", x.version(0), 1);
        x.set(0, p(3), 5);
        dueMove(x, 0, 0, -25, 0);
        x.set(0, p(0), 31);
        dueMove(x, 0, 1, 3, 0);
        due("the rest", x.get(0, p(3)), 1);
        x.set(0, p(3), 2);
        fails("above the bounds", ARITHMETIC, () -> x.translate(0, 0));
        due("it is as before", x.get(0, p(3)), 2);

        LensPaths wide = withNumber(MIN, MAX);
        step(wide, 0, NONE, SPLIT, p(0), 1000, 1, 0);
        wide.record(1);
        wide.set(0, p(0), 2147483);
        wide.set(0, p(1), 648);
        fails("above all ints", ARITHMETIC, () -> wide.translate(0, 0));
        wide.set(0, p(1), 647);
        dueMove(wide, 0, 0, MAX, 0);
        wide.set(0, p(0), MIN);
        dueMove(wide, 0, 1, -2147484, 0);
        due("the rest of the least int", wide.get(0, p(1)), 352);
        wide.set(0, p(1), 351);
        fails("below all ints", ARITHMETIC, () -> wide.translate(0, 0));
    }

    private static void asBefore() {
        promise = 21;
        LensPaths x = withNumber(0, 5);
        step(x, 0, NONE, SPLIT, p(0), 4, 1, 0);
        step(x, 1, NONE, ADD, p(2), 1, 0, 9, SCALE, p(0), 3, 1, 0);
        x.record(2);
        x.set(0, p(0), 2);
        x.put(0, p(2), 0, 8);
        x.set(0, p(1), 3);
        x.copy(0);
        x.translate(1, 1);
        x.set(1, p(0), 1);
        fails("the second step cannot", ARITHMETIC, () -> x.translate(1, 0));
        due("kept as before", x.kept(1), 2);
        due("the version as before", x.version(1), 1);
        x.set(0, p(0), 3);
        fails("the second of two steps cannot", ARITHMETIC, () -> x.translate(0, 0));
        due("the version as before", x.version(0), 2);
        due("nothing is kept", x.kept(0), 0);
        due("the number as before", x.get(0, p(0)), 3);
        dueList("the list as before", x, 0, p(2), 8);
    }

    private static void scale() {
        promise = 21;
        LensPaths x = withNumber(-10, 10);
        step(x, 0, NONE, SCALE, p(0), 2, 3, 0);
        x.record(0);
        x.set(0, p(0), -8);
        dueMove(x, 0, 1, -6, 1);
        dueMove(x, 0, 0, -8, 0);
        dueMove(x, 0, 1, -6, 1);
        x.set(0, p(0), -5);
        dueMove(x, 0, 0, -8, 1);
        dueMove(x, 0, 1, -5, 0);
        dueMove(x, 0, 0, -8, 1);
        x.set(0, p(0), 9);
        dueMove(x, 0, 1, 6, 0);
        x.set(0, p(0), -7);
        dueMove(x, 0, 0, -10, 0);

        LensPaths part = withNumber(1, 10);
        step(part, 0, NONE, SCALE, p(0), 1, 3, 0);
        part.record(1);
        dueMove(part, 0, 0, 1, 0);
        part.set(0, p(0), 5);
        dueMove(part, 0, 1, 1, 1);
        part.set(0, p(0), 0);
        dueMove(part, 0, 0, 1, 0);

        LensPaths back = withNumber(0, 50);
        step(back, 0, NONE, SCALE, p(0), 2, 1, 0);
        back.record(1);
        back.set(0, p(0), 77);
        dueMove(back, 0, 0, 38, 1);
        dueMove(back, 0, 1, 77, 0);
        dueMove(back, 0, 0, 38, 1);
        back.set(0, p(0), 39);
        dueMove(back, 0, 1, 78, 0);
    }

    private static void scaleWide() {
        promise = 21;
        LensPaths x = withNumber(-2147483000, MAX);
        step(x, 0, NONE, SCALE, p(0), 999, 1000, 0);
        x.record(0);
        x.set(0, p(0), MAX);
        dueMove(x, 0, 1, 2145336163, 1);
        dueMove(x, 0, 0, MAX, 0);
        x.translate(0, 1);
        x.set(0, p(0), 2145336162);
        dueMove(x, 0, 0, 2147483645, 1);
        x.set(0, p(0), -2147483000);
        dueMove(x, 0, 1, -2145335517, 0);
        dueMove(x, 0, 0, -2147483000, 0);
    }

    private static void keptOtherWay() {
        promise = 21;
        // Two steps beside each other, so that a record comes round to the first one from behind.
        LensPaths x = withNumber(0, 10);
        step(x, 0, NONE, SCALE, p(0), 1, 2, 0);
        step(x, 1, NONE);
        step(x, 0, 2, SCALE, p(0), 1, 2, 0);
        x.record(0);
        x.set(0, p(0), 7);
        dueMove(x, 0, 1, 3, 1);
        dueMove(x, 0, 2, 3, 1);
        dueMove(x, 0, 0, 6, 1);
        x.set(0, p(0), 3);
        dueMove(x, 0, 1, 1, 1);
        dueMove(x, 0, 0, 3, 0);
    }

    private static void map() {
        promise = 21;
        LensPaths x = withNumber(0, 9);
        step(x, 0, NONE, MAP, p(0), 4, 7, 0);
        x.record(0);
        x.set(0, p(0), 4);
        dueMove(x, 0, 1, 7, 1);
        dueMove(x, 0, 0, 4, 0);
        x.set(0, p(0), 7);
        dueMove(x, 0, 1, 7, 0);
        dueMove(x, 0, 0, 7, 0);
        x.set(0, p(0), 4);
        x.translate(0, 1);
        x.set(0, p(0), 5);
        dueMove(x, 0, 0, 5, 0);
        x.translate(0, 1);
        x.set(0, p(0), 4);
        dueMove(x, 0, 0, 4, 1);
        dueMove(x, 0, 1, 4, 0);
        dueMove(x, 0, 0, 4, 1);
        x.set(0, p(0), 3);
        dueMove(x, 0, 1, 3, 0);
    }

    private static void sort() {
        promise = 21;
        LensPaths x = withList(-9, 9);
        step(x, 0, NONE, SORT, p(0), 0, 0, 0);
        x.record(0);
        fill(x, 0, p(0), 3, -1, 9, 3, -9, 0);
        x.translate(0, 1);
        dueList("the least first", x, 0, p(0), -9, -1, 0, 3, 3, 9);
        due("kept", x.kept(0), 1);
        x.translate(0, 0);
        dueList("what was", x, 0, p(0), 3, -1, 9, 3, -9, 0);
        due("kept no more", x.kept(0), 0);
        x.translate(0, 1);
        x.cut(0, p(0), 5);
        x.translate(0, 0);
        dueList("another list stays", x, 0, p(0), -9, -1, 0, 3, 3);
        due("it is in order", x.kept(0), 0);
        x.translate(0, 1);
        due("in order still", x.kept(0), 0);
        fill(x, 0, p(0), 2, 1);
        x.translate(0, 0);
        dueList("all stays back", x, 0, p(0), 2, 1);
        due("kept, as forth would not lead there", x.kept(0), 1);
        x.translate(0, 1);
        dueList("what was, not in order", x, 0, p(0), 2, 1);
        due("kept no more", x.kept(0), 0);
    }

    private static void route() {
        promise = 22;
        LensPaths x = withNumber(0, 9);
        for (int v = 1; v < 8; v++) {
            step(x, v == 1 || v == 2 ? 0 : v - 1, NONE);
        }
        // 0-1, 0-2, 2-3, 3-4, 4-5, 5-6, 6-7
        due("to itself", x.route(3, 3, 0), 3);
        due("none behind it", x.route(3, 3, 1), NONE);
        int[] way = {1, 0, 2, 3, 4, 5, 6, 7};
        for (int k = 0; k < 8; k++) {
            due("from 1 to 7", x.route(1, 7, k), way[k]);
            due("from 7 to 1", x.route(7, 1, k), way[7 - k]);
        }
        due("behind the last", x.route(1, 7, 8), NONE);
        due("before the first", x.route(1, 7, -1), NONE);
        due("far behind", x.route(1, 7, MAX), NONE);
        due("far before", x.route(1, 7, MIN), NONE);
        fails("no version from", INDEX, () -> x.route(8, 0, 0));
        fails("no version to", INDEX, () -> x.route(0, -1, 0));
        step(x, 7, 1);
        due("the fewest steps", x.route(0, 7, 1), 1);
        // 0-1-7-6-5 and 0-2-3-4-5: the lesser where they differ first
        due("the lesser version", x.route(0, 5, 1), 1);
        due("the lesser version, the last but one", x.route(0, 5, 3), 6);
        due("the same way back", x.route(5, 0, 1), 6);
        due("over how many steps", x.translate(x.record(5), 0), 4);
        // From 5 on, 4 would be lesser than 6: the way is told from the lesser version.
        step(x, 6, 2);
        due("two ways of three steps", x.route(0, 5, 2), 3 + 3);
        due("as told from 0", x.route(5, 0, 2), 2);
    }

    private static void firstOfSeveral() {
        promise = 22;
        LensPaths x = withNumber(0, 9);
        step(x, 0, NONE);
        step(x, 0, 1, MAP, p(0), 1, 2, 0);
        step(x, 1, 0, MAP, p(0), 1, 3, 0);
        x.record(0);
        x.set(0, p(0), 1);
        dueMove(x, 0, 1, 1, 0);
        dueMove(x, 0, 0, 1, 0);
    }

    /** What clash tells of two steps beside each other, of version 0 with a number 0 and a list 1. */
    private static int beside(int[] one, int[] other) {
        LensPaths x = new LensPaths();
        x.field(p(0), 0, -20, 30);
        x.field(p(1), 1, 2, 30);
        step(x, 0, NONE, one);
        step(x, 0, 1, other);
        int told = x.clash(0);
        due("the other way about", x.clash(1), told);
        return told;
    }

    /** What clash tells of a step beside a way over another step forth, and a third one back. */
    private static int round(LensPaths x, int[] step, int[] forth, int[] back) {
        step(x, 0, NONE, step);
        step(x, 0, NONE, forth);
        step(x, 1, 2, back);
        return x.clash(0);
    }

    /** The same of a step without primitives, of version 0 with a number 0 and a list 1. */
    private static int roundBy(int[] forth, int[] back) {
        LensPaths x = new LensPaths();
        x.field(p(0), 0, -20, 30);
        x.field(p(1), 1, 2, 30);
        return round(x, of(), forth, back);
    }

    private static int[] of(int... n) {
        return n;
    }

    private static void clash() {
        promise = 23;
        LensPaths x = withNumber(0, 9);
        fails("no step", INDEX, () -> x.clash(0));
        step(x, 0, NONE);
        fails("no step 1", INDEX, () -> x.clash(1));
        fails("no step -1", INDEX, () -> x.clash(-1));
        due("no other route", x.clash(0), NONE);
        step(x, 1, 0, MAP, p(0), 1, 2, 0);
        due("MAP back is itself", x.clash(0), 0);
        due("MAP forth is not", x.clash(1), 1);

        due("nothing both times", beside(of(), of()), 0);
        due("RENAME there and back", beside(of(), of(RENAME, p(0), 7, 0, 0, RENAME, p(7), 0, 0, 0)), 0);
        due("MAP", beside(of(MAP, p(0), 1, 2, 0), of(MAP, p(0), 1, 3, 0)), 1);
        due("MAP the same", beside(of(MAP, p(0), 1, 2, 0), of(MAP, p(0), 1, 2, 0)), 0);
        due("MAP from another", beside(of(MAP, p(0), 1, 2, 0), of(MAP, p(0), 3, 2, 0)), 1);
        due("SORT", beside(of(SORT, p(1), 0, 0, 0), of()), 1);
        due("SORT twice", beside(of(SORT, p(1), 0, 0, 0), of(SORT, p(1), 0, 0, 0, SORT, p(1), 0, 0, 0)), 0);
        due("SORT of W", beside(of(WRAP, p(0), 0, 0, 0), of(WRAP, p(0), 0, 0, 0, SORT, p(0), 0, 0, 0)), 0);
        due("SORT of E", beside(of(ADD, p(2), 1, 0, 1), of(ADD, p(2), 1, 0, 1, SORT, p(2), 0, 0, 0)), 0);
        due("SCALE by the same", beside(of(SCALE, p(0), 7, 7, 0), of()), 0);
        due("SCALE is not made simpler", beside(of(SCALE, p(0), 2, 1, 0), of(SCALE, p(0), 4, 2, 0)), 1);
        due("REMOVE and ADD", beside(of(REMOVE, p(0), 0, 0, 0, ADD, p(0), 0, -20, 30), of()), 1);
        due("the default as a number", beside(of(REMOVE, p(0), 0, 0, 0, ADD, p(0), 0, -20, 30),
                of(REMOVE, p(0), 0, 0, 0, ADD, p(0), 0, -20, 30, MAP, p(0), 5, 6, 0)), 0);
        due("MAP of a number", beside(of(REMOVE, p(0), 0, 0, 0, ADD, p(0), 0, -20, 30),
                of(REMOVE, p(0), 0, 0, 0, ADD, p(0), 0, -20, 30, MAP, p(0), 0, 6, 0)), 1);
        due("another default", beside(of(ADD, p(2), 0, 6, 7, SCALE, p(2), 1, 2, 0),
                of(ADD, p(2), 0, 3, 3)), 0);
        due("SPLIT of a number", beside(of(ADD, p(2), 0, -7, -7, SPLIT, p(2), 5, 3, 0, SCALE, p(3), 1, 5, 0),
                of(ADD, p(2), 0, -2, -2, ADD, p(3), 0, 0, 0)), 0);
        due("the rest of a number", beside(of(ADD, p(2), 0, -7, -7, SPLIT, p(2), 5, 3, 0),
                of(ADD, p(2), 0, -2, -2, ADD, p(3), 0, 0, 4, MAP, p(3), 0, 3, 0)), 0);
        LensPaths one = withNumber(0, 1);
        step(one, 0, NONE, SCALE, p(0), 1, 5, 0);
        step(one, 0, 1, SCALE, p(0), 2, 5, 0);
        due("SCALE by another a", one.clash(1), 1);
        LensPaths other = withNumber(0, 1);
        step(other, 0, NONE, SCALE, p(0), 2, 5, 0);
        step(other, 0, 1, SCALE, p(0), 2, 4, 0);
        due("SCALE by another b", other.clash(1), 1);
        LensPaths twins = withNumber(0, 9);
        twins.field(p(1), 0, 0, 9);
        step(twins, 0, NONE);
        step(twins, 0, 1, RENAME, p(0), 2, 0, 0, RENAME, p(1), 0, 0, 0, RENAME, p(2), 1, 0, 0);
        due("two numbers change names", twins.clash(1), 1);
        due("a record type", beside(of(ADD, p(2), 2, 0, 0), of(ADD, p(2), 2, 1, 1)), 0);
        due("two numbers change places", beside(of(SPLIT, p(0), 2, 2, 0, SPLIT, p(0), 2, 3, 0),
                of(SPLIT, p(0), 2, 3, 0, SPLIT, p(0), 2, 2, 0)), 1);
        due("SPLIT the same, told otherwise", beside(of(SPLIT, p(0), 2, 2, 0, SPLIT, p(0), 2, 3, 0),
                of(SPLIT, p(0), 2, 9, 0, SPLIT, p(0), 2, 3, 0, RENAME, p(9), 2, 0, 0)), 0);
    }

    private static void clashBack() {
        promise = 23;
        due("WRAP back of W", roundBy(of(WRAP, p(0), 0, 0, 0), of(WRAP, p(0), 0, 0, 0)), 0);
        due("WRAP back of E", roundBy(of(REMOVE, p(0), 0, 0, 0, ADD, p(0), 1, -20, 30), of(WRAP, p(0), 0, 0, 0)), 1);
        due("WRAP back of O", roundBy(of(WRAP, p(0), 0, 0, 0, SORT, p(0), 0, 0, 0), of(WRAP, p(0), 0, 0, 0)), 0);
        due("SPLIT back of Q and R", roundBy(of(SPLIT, p(0), 7, 5, 0), of(SPLIT, p(0), 7, 5, 0)), 0);
        due("SPLIT back of others", roundBy(of(SPLIT, p(0), 7, 5, 0, MAP, p(5), 1, 2, 0), of(SPLIT, p(0), 7, 5, 0)), 1);
        due("SCALE back", roundBy(of(SCALE, p(0), 2, 1, 0), of(SCALE, p(0), 2, 1, 0)), 1);
        due("SCALE back by the same", roundBy(of(), of(SCALE, p(0), 2, 2, 0)), 0);
        due("MAP back", roundBy(of(), of(MAP, p(0), 2, 3, 0)), 0);
        due("SORT back", roundBy(of(), of(SORT, p(1), 0, 0, 0)), 0);
        due("SORT forth", roundBy(of(SORT, p(1), 0, 0, 0), of()), 1);
        due("REMOVE back", roundBy(of(REMOVE, p(1), 0, 0, 0), of(REMOVE, p(1), 0, 0, 0)), 1);
        due("ADD back", roundBy(of(ADD, p(2), 0, 0, 1, MAP, p(2), 0, 1, 0), of(ADD, p(2), 0, 0, 1)), 0);
        due("SPLIT by the same twice", roundBy(of(SPLIT, p(0), 2, 5, 0, SPLIT, p(0), 2, 6, 0),
                of(SPLIT, p(0), 2, 5, 0, SPLIT, p(0), 2, 6, 0)), 0);
        int[] anew = of(REMOVE, p(0), 0, 0, 0, ADD, p(0), 0, -20, 30);
        due("REMOVE back: the default", round(withNumber(-20, 30), anew,
                of(REMOVE, p(0), 0, 0, 0), of(REMOVE, p(0), 0, 0, 0)), 0);
        due("SPLIT back of a number and R", round(withNumber(-20, 30), anew,
                of(SPLIT, p(0), 7, 5, 0, REMOVE, p(0), 0, 0, 0, ADD, p(0), 0, -3, 4),
                of(SPLIT, p(0), 7, 5, 0)), 1);
        due("SPLIT back of Q and a number", round(withNumber(-20, 30), anew,
                of(SPLIT, p(0), 7, 5, 0, REMOVE, p(5), 0, 0, 0, ADD, p(5), 0, 0, 6),
                of(SPLIT, p(0), 7, 5, 0)), 1);
        LensPaths scaled = withNumber(-20, 30);
        scaled.field(p(5), 0, 0, 12);
        due("SPLIT back of what SCALE made", round(scaled, of(REMOVE, p(5), 0, 0, 0),
                of(SCALE, p(0), 7, 49, 0, SCALE, p(5), 7, 14, 0), of(SPLIT, p(0), 7, 5, 0)), 1);
        LensPaths two = withNumber(-20, 30);
        two.field(p(2), 0, -20, 30);
        int[] both = of(SPLIT, p(0), 7, 5, 0, SPLIT, p(2), 7, 6, 0);
        due("SPLIT back of Q and R of two numbers", round(two, of(), of(SPLIT, p(0), 7, 5, 0, SPLIT, p(2), 7, 6, 0,
                RENAME, p(5), 9, 0, 0, RENAME, p(6), 5, 0, 0, RENAME, p(9), 6, 0, 0), both), 1);
        numbersBack();
        splitForthOfJ();
    }

    /** Two versions with the number 0 as a default, one over WRAP back of E, SCALE back and SPLIT back. */
    private static void numbersBack() {
        LensPaths x = new LensPaths();
        step(x, 0, NONE, ADD, p(0), 0, 4, 9);
        step(x, 0, NONE, ADD, p(0), 1, 4, 9);
        step(x, 1, 2, WRAP, p(0), 0, 0, 0);
        due("WRAP back of E: the default", x.clash(0), 0);
        due("W of a number is not E", x.clash(1), 1);

        LensPaths y = new LensPaths();
        step(y, 0, NONE, ADD, p(0), 0, 7, 9);
        step(y, 0, NONE, ADD, p(0), 0, 1, 1, ADD, p(1), 0, 0, 4, MAP, p(1), 0, 2, 0);
        step(y, 1, 2, SPLIT, p(0), 5, 1, 0);
        due("SPLIT back of two numbers", y.clash(0), 0);
        due("SPLIT forth of a number", y.clash(1), 0);

        LensPaths z = new LensPaths();
        step(z, 0, NONE, ADD, p(0), 0, 7, 9);
        step(z, 0, NONE, ADD, p(0), 0, 2, 3);
        step(z, 1, 2, SCALE, p(0), 1, 3, 0);
        due("SCALE back of a number, or the nearest bound", z.clash(0), 0);
        due("SCALE forth of a number", z.clash(1), 0);

        LensPaths w = new LensPaths();
        step(w, 0, NONE, ADD, p(0), 0, 7, 9);
        step(w, 0, NONE, ADD, p(0), 0, 1, 1, ADD, p(1), 0, 0, 4);
        step(w, 1, 2, SPLIT, p(0), 5, 1, 0);
        due("SPLIT back of two numbers, whatever bounds", w.clash(0), 1);

        LensPaths v = new LensPaths();
        step(v, 0, NONE, ADD, p(0), 0, MIN, MAX, MAP, p(0), 0, MIN, 0);
        step(v, 0, NONE, ADD, p(0), 0, -2147484, 2147483, MAP, p(0), 0, 2147483, 0,
                ADD, p(1), 0, 0, 999, MAP, p(1), 0, 648, 0);
        step(v, 1, 2, SPLIT, p(0), 1000, 1, 0);
        due("SPLIT back of two numbers, as an int", v.clash(0), 0);
    }

    private static void splitForthOfJ() {
        LensPaths y = withNumber(0, 19);
        step(y, 0, NONE, SPLIT, p(0), 5, 1, 0);
        step(y, 1, NONE);
        step(y, 0, 2, SPLIT, p(0), 5, 1, 0);
        due("SPLIT back and forth: J is taken apart", y.clash(1), 0);
        LensPaths w = withNumber(0, 19);
        step(w, 0, NONE, SPLIT, p(0), 5, 1, 0);
        step(w, 1, NONE);
        step(w, 0, 2, ADD, p(7), 2, 0, 0, REMOVE, p(7), 0, 0, 0, SPLIT, p(0), 5, 1, 0);
        due("J is taken apart, whatever is between", w.clash(1), 0);
        LensPaths z = withNumber(0, 19);
        step(z, 0, NONE, SPLIT, p(0), 5, 1, 0);
        step(z, 1, NONE);
        step(z, 0, 2, MAP, p(0), 1, 2, 0, SPLIT, p(0), 5, 1, 0);
        due("J with a MAP round it is not", z.clash(1), 1);
        due("nor is the MAP between SPLITs", z.clash(0), 1);
    }

    private static void withoutTheStep() {
        promise = 23;
        LensPaths x = withNumber(0, 9);
        step(x, 0, NONE);
        step(x, 0, 1, MAP, p(0), 1, 2, 0);
        step(x, 1, 0);
        due("the first step against the second one", x.clash(0), 1);
        due("the second step against the first one", x.clash(1), 1);
        due("the third step against the first one", x.clash(2), 0);
        due("again", x.clash(0), 1);
        LensPaths y = withNumber(0, 9);
        step(y, 0, NONE);
        step(y, 1, NONE, MAP, p(0), 1, 2, 0);
        step(y, 2, 0);
        due("from a greater version, back over the MAP", y.clash(2), 0);
        due("round the other way, back over the MAP too", y.clash(0), 0);
        due("the MAP itself against nothing", y.clash(1), 1);
    }

    /** Of one object more terms than any one call makes. */
    private static void manyTerms() {
        promise = 23;
        LensPaths x = withNumber(0, 99);
        for (int s = 0; s < 8; s++) {
            x.begin(s == 7 ? 0 : s);
            for (int i = 0; i < 4; i++) {
                x.primitive(SCALE, p(0), 2, 1, 0);
                x.primitive(SCALE, p(0), 1, 2, 0);
            }
            x.end(s == 7 ? 7 : NONE);
        }
        for (int s = 0; s < 8; s++) {
            due("step " + s + " against all others", x.clash(s), 1);
        }
    }

    private static void oneBehindAnother() {
        promise = 23;
        LensPaths x = withNumber(0, 9);
        step(x, 0, NONE);
        step(x, 0, 1, MAP, p(0), 1, 2, 0);
        step(x, 1, NONE, REMOVE, p(0), 0, 0, 0, ADD, p(0), 2, 0, 0);
        step(x, 2, NONE);
        step(x, 2, 3);
        due("other terms", x.clash(1), 1);
        due("a record has none, whatever was told before", x.clash(3), 0);
        LensPaths y = withNumber(0, 9);
        y.field(p(1), 0, 0, 9);
        y.field(p(2), 0, 0, 9);
        step(y, 0, NONE, REMOVE, p(0), 0, 0, 0, RENAME, p(2), 0, 0, 0);
        step(y, 0, 1, REMOVE, p(2), 0, 0, 0);
        due("another one of three stays", y.clash(0), 1);
    }

    private static void longestWay() {
        promise = 23;
        LensPaths x = withNumber(MIN, MAX);
        int low = MIN;
        int high = MAX;
        for (int v = 1; v < 8; v++) {
            x.begin(v - 1);
            for (int i = 0; i < 4; i++) {
                x.primitive(SPLIT, p(0), 2, 1, 0);
                x.primitive(REMOVE, p(1), 0, 0, 0);
                low = Math.floorDiv(low, 2);
                high = Math.floorDiv(high, 2);
            }
            due("version", x.end(NONE), v);
        }
        step(x, 0, 7, REMOVE, p(0), 0, 0, 0, ADD, p(0), 0, low, high, MAP, p(0), low, high, 0,
                MAP, p(0), high, low, 0);
        due("seven steps of eight primitives", x.clash(7), 1);
        due("the way back", x.clash(0), 1);
    }

    public static void main(String[] args) {
        newObject();
        field();
        begin();
        primitive();
        kindsRefused();
        kindsDone();
        fieldsOfPrimitives();
        end();
        leave();
        about();
        count();
        record();
        copy();
        drop();
        setAndGet();
        lists();
        versionOfRecord();
        kept();
        same();
        translateWays();
        places();
        addAndRemove();
        defaults();
        wrap();
        split();
        asBefore();
        scale();
        scaleWide();
        keptOtherWay();
        map();
        sort();
        route();
        firstOfSeveral();
        clash();
        clashBack();
        withoutTheStep();
        longestWay();
        manyTerms();
        oneBehindAnother();
        System.out.println(wrong == 0 ? "all promises hold" : wrong + " answers are not as due");
        if (wrong != 0) {
            System.exit(1);
        }
    }
}
