import java.io.IOException;

/** A walk through 'Terms', from schemas to the kinds of primitives. */
public final class SchemaSentencesTest extends Sentences {

    private static void recordTypes() {
        says("## Terms SCHEMAS. A schema is a RECORD TYPE: FIELDS with different NAMES 0 .. 99,");
        Run names = new Run();
        for (int name : of(0, 42, 99)) {
            names.does("field", p(name), GROUP, 0, 0);
            names.refuses(ARGUMENT, "field", p(name), NUMBER, 0, 9);
            names.due(GROUP, "about", 0, p(name), 0);
        }
        names.due(4, "field", p(42, 42), NUMBER, 0, 9);
        names.refuses(ARGUMENT, "field", p(100), NUMBER, 0, 9);

        says("each of a SORT: 0 a NUMBER, with bounds low and high (low not above high);");
        Run numbers = new Run();
        numbers.does("field", p(0), 0, -3, 7);
        numbers.does("field", p(1), 0, 5, 5);
        numbers.refuses(ARGUMENT, "field", p(2), 0, 6, 5);
        numbers.refuses(ARGUMENT, "field", p(2), 3, 5, 6);
        numbers.refuses(ARGUMENT, "field", p(2), -1, 5, 6);
        numbers.dueField(0, p(0), 0, -3, 7);
        numbers.does("record", 0);
        numbers.does("set", 0, p(0), -3);
        numbers.does("set", 0, p(0), 7);
        numbers.refuses(ARGUMENT, "set", 0, p(0), 8);
        numbers.due(7, "get", 0, p(0));

        says("1 a LIST of up to 6 numbers, with bounds for each of them;");
        Run lists = new Run();
        lists.does("field", p(0), 1, 10, 15);
        lists.dueField(0, p(0), 1, 10, 15);
        lists.does("record", 0);
        for (int i = 0; i < 6; i++) {
            lists.refuses(ARGUMENT, "put", 0, p(0), i, 9);
            lists.refuses(ARGUMENT, "put", 0, p(0), i, 16);
            lists.due(i + 1, "put", 0, p(0), i, 10 + i);
        }
        lists.refuses(ARGUMENT, "put", 0, p(0), 6, 10);
        lists.dueList(0, p(0), 10, 11, 12, 13, 14, 15);

        says("2 a record type, which may have no fields.");
        Run none = new Run();
        none.due(0, "about", 0, 0, 3);
        none.due(1, "field", p(0), 2, 0, 0);
        none.due(0, "about", 0, p(0), 3);
        none.due(2, "field", p(0, 1), 0, 0, 9);
        none.due(1, "about", 0, p(0), 3);
        none.due(2, "about", 0, p(0), 0);
        none.does("record", 0);
        none.due(0, "get", 0, p(0, 1));
    }

    private static void sizeOfASchema() {
        says("A schema has at most 24 fields in all,");
        Run full = new Run();
        full.does("field", p(0), GROUP, 0, 0);
        for (int i = 1; i < 24; i++) {
            full.due(i + 1, "field", i % 2 == 0 ? p(i) : p(0, i), NUMBER, 0, 9);
        }
        full.refuses(STATE, "field", p(50), NUMBER, 0, 9);
        full.refuses(STATE, "field", p(0, 50), NUMBER, 0, 9);
        full.does("begin", 0);
        full.refuses(ARGUMENT, "primitive", ADD, p(50), NUMBER, 0, 9);
        full.refuses(ARGUMENT, "primitive", SPLIT, p(2), 2, 50, 0);
        full.due(24, "about", 0, 0, 3);

        says("and none deeper than four names.");
        Run deep = new Run();
        deep.does("field", p(0), GROUP, 0, 0);
        deep.does("field", p(0, 1), GROUP, 0, 0);
        deep.does("field", p(0, 1, 2), GROUP, 0, 0);
        deep.due(4, "field", p(0, 1, 2, 3), GROUP, 0, 0);
        deep.refuses(ARGUMENT, "field", p(0, 1, 2, 3) | 5 << 28, NUMBER, 0, 9);
        deep.does("begin", 0);
        deep.refuses(ARGUMENT, "primitive", ADD, p(0, 1, 2, 3) | 5 << 28, NUMBER, 0, 9);
    }

    private static void paths() {
        says("A PATH is an int: its lowest 7 bits are a name and 1, the next 7 likewise, and so on, up to four names;");
        Run r = new Run();
        int[] written = {4, 4 + 100 * 128, 4 + 100 * 128 + 16384, 4 + 100 * 128 + 16384 + 8 * 2097152};
        for (int i = 0; i < 4; i++) {
            r.due(i + 1, "field", written[i], i == 3 ? NUMBER : GROUP, 0, 9);
            r.due(i == 3 ? NUMBER : GROUP, "about", 0, written[i], 0);
        }
        r.due(5, "field", 100, NUMBER, 0, 9);
        r.due(NONE, "about", 0, 100 + 4 * 128, 0);
        for (int path : of(128, 4 + 16384, 101, 5 + MIN, 5 + (1 << 28))) {
            r.refuses(ARGUMENT, "field", path, NUMBER, 0, 9);
        }
        r.step(0, NONE, RENAME, written[3], 9, 0, 0, LIFT, written[3] + 2 * 2097152, 0, 0, 0);
        r.due(NUMBER, "about", 1, 4 + 100 * 128 + 10 * 16384, 0);

        says("then there are 0s alone (any other int leads nowhere, as one without a field).");
        r.does("record", 0);
        int[] nowhere = {4 + 128 * 101, 4 + 128 * 127, 4 + 16384, 4 + 2097152, 128, written[3] + (1 << 28),
            100 + (1 << 30), 100 + MIN, 101, -1};
        for (int path : nowhere) {
            r.dueField(0, path, NONE, 0, 0);
            r.due(0, "about", 0, path, 3);
            r.refuses(ARGUMENT, "get", 0, path);
        }
        r.dueField(0, 50, NONE, 0, 0);
        r.due(0, "about", 0, 50, 3);
        r.refuses(ARGUMENT, "get", 0, 50);

        says("It leads from the whole record (path 0) from field to field.");
        r.due(GROUP, "about", 0, 0, 0);
        r.due(5, "about", 0, 0, 3);
        r.due(3, "about", 0, written[0], 3);
        r.due(2, "about", 0, written[1], 3);
        r.due(1, "about", 0, written[2], 3);
        r.due(0, "about", 0, written[3], 3);
    }

    private static void defaults() {
        says("The DEFAULT of a number is the one in its bounds that is nearest to 0,");
        Run r = new Run();
        int[][] bounds = {{-5, 5, 0}, {0, 9, 0}, {-9, 0, 0}, {1, 9, 1}, {3, 9, 3}, {-9, -1, -1}, {-9, -4, -4}};
        for (int i = 0; i < bounds.length; i++) {
            r.does("field", p(i), NUMBER, bounds[i][0], bounds[i][1]);
        }
        r.does("record", 0);
        for (int i = 0; i < bounds.length; i++) {
            r.due(bounds[i][2], "get", 0, p(i));
        }

        says("that of a list is without numbers.");
        Run l = withList(3, 9);
        l.does("record", 0);
        l.due(0, "size", 0, p(0));
        l.refuses(ARGUMENT, "item", 0, p(0), 0);
    }

    private static void versions() {
        says("VERSIONS 0, 1, .. (at most 8) have a schema each;");
        Run r = withNumber(0, 9);
        for (int v = 1; v < 8; v++) {
            r.does("begin", v - 1);
            r.does("primitive", ADD, p(v), NUMBER, 0, v);
            r.due(v, "end", NONE);
        }
        r.does("begin", 0);
        r.refuses(UNSUPPORTED, "end", NONE);
        r.due(8, "count", 0);
        for (int v = 0; v < 8; v++) {
            r.due(v + 1, "about", v, 0, 3);
            r.dueField(v, p(v), NUMBER, 0, v == 0 ? 9 : v);
        }

        says("that of version 0 is told by field().");
        Run told = withEachSort();
        told.due(1, "count", 0);
        told.due(6, "about", 0, 0, 3);
        told.dueField(0, p(2, 3, 4), NUMBER, 1, 2);
        told.dueField(0, p(1), LIST, -5, 9);

        // No call tells the order: the terms S k are all different, in whatever order they are dealt out.
        passes("Fields stand by their names, those of a record directly behind it.");
    }

    private static void steps() {
        says("STEPS 0, 1, .. (at most 16)");
        Run r = withSteps(15);
        r.refuses(INDEX, "clash", 15);
        r.does("begin", 1);
        r.due(0, "end", 0);
        r.due(16, "count", 1);
        r.due(0, "clash", 0);
        r.due(0, "clash", 15);
        r.does("begin", 1);
        r.refuses(UNSUPPORTED, "end", 0);

        says("lead from one version to another one by 0 to 8 PRIMITIVES,");
        Run p = withNumber(0, 9);
        p.does("begin", 0);
        p.refuses(ARGUMENT, "end", 0);
        p.due(1, "end", NONE);
        p.does("begin", 0);
        for (int i = 1; i <= 8; i++) {
            p.due(i, "primitive", RENAME, p(i - 1), i, 0, 0);
        }
        p.refuses(STATE, "primitive", RENAME, p(8), 9, 0, 0);
        p.due(2, "end", NONE);
        p.dueField(2, p(8), NUMBER, 0, 9);

        says("each of which works on the schema that those before it made");
        Run made = withNumber(0, 9);
        made.does("begin", 0);
        made.does("primitive", RENAME, p(0), 1, 0, 0);
        made.refuses(ARGUMENT, "primitive", WRAP, p(0), 0, 0, 0);
        made.refuses(ARGUMENT, "primitive", SORT, p(1), 0, 0, 0);
        made.does("primitive", WRAP, p(1), 0, 0, 0);
        made.due(3, "primitive", SORT, p(1), 0, 0, 0);
        made.due(1, "end", NONE);
        made.dueField(1, p(1), LIST, 0, 9);
        made.dueField(0, p(0), NUMBER, 0, 9);
        made.dueField(0, p(1), NONE, 0, 0);

        says("(numbers that a kind does not use count for nothing):");
        Run odd = withEachSort();
        odd.does("begin", 0);
        odd.due(1, "primitive", RENAME, p(5), 6, -7, MAX);
        odd.due(2, "primitive", REMOVE, p(6), MIN, -7, MAX);
        odd.due(3, "primitive", LIFT, p(2, 3), MIN, -7, MAX);
        odd.due(4, "primitive", SORT, p(1), MIN, -7, MAX);
        odd.due(5, "primitive", ADD, p(7), GROUP, MAX, MIN);
        odd.due(6, "primitive", WRAP, p(0), MIN, -7, MAX);
        odd.due(7, "primitive", SCALE, p(3, 4), 1, 1, MAX);
        odd.due(8, "primitive", SPLIT, p(3, 4), 2, 5, MIN);
        odd.due(1, "end", NONE);
    }

    private static void renameAddRemoveWrap() {
        says("0 RENAME path to the name a, which its record has not.");
        Run r = withEachSort();
        r.does("begin", 0);
        r.refuses(ARGUMENT, "primitive", 0, p(0), 1, 0, 0);
        r.refuses(ARGUMENT, "primitive", 0, p(0), 0, 0, 0);
        r.refuses(ARGUMENT, "primitive", 0, p(0), 100, 0, 0);
        r.due(1, "primitive", 0, p(0), 99, 0, 0);
        r.due(2, "primitive", 0, p(2), 6, 0, 0);
        r.due(3, "primitive", 0, p(99), 4, 0, 0);
        r.due(1, "end", NONE);
        r.dueField(1, p(0), NONE, 0, 0);
        r.dueField(1, p(4), NUMBER, -5, 9);
        r.dueField(1, p(6, 3, 4), NUMBER, 1, 2);
        r.dueField(1, p(2), NONE, 0, 0);
        r.due(6, "about", 1, 0, 3);

        says("1 ADD a field at a path, in a record that is there and has none of that name, of the sort a,"
                + " for sort 0 and 1 with the bounds b and c.");
        Run a = withEachSort();
        a.does("begin", 0);
        a.refuses(ARGUMENT, "primitive", 1, p(0), 0, 0, 1);
        a.refuses(ARGUMENT, "primitive", 1, p(2, 3), 0, 0, 1);
        a.refuses(ARGUMENT, "primitive", 1, p(0, 1), 0, 0, 1);
        a.refuses(ARGUMENT, "primitive", 1, p(9, 1), 0, 0, 1);
        a.refuses(ARGUMENT, "primitive", 1, p(9), 0, 2, 1);
        a.refuses(ARGUMENT, "primitive", 1, p(9), 1, 2, 1);
        a.refuses(ARGUMENT, "primitive", 1, p(9), 3, 0, 1);
        a.due(1, "primitive", 1, p(9), 0, -8, -2);
        a.due(2, "primitive", 1, p(2, 9), 1, 4, 6);
        a.due(3, "primitive", 1, p(5, 0), 2, 4, 6);
        a.due(1, "end", NONE);
        a.dueField(1, p(9), NUMBER, -8, -2);
        a.dueField(1, p(2, 9), LIST, 4, 6);
        a.dueField(1, p(5, 0), GROUP, 0, 0);

        says("2 REMOVE the field at a path: not a record with fields.");
        Run m = withEachSort();
        m.does("begin", 0);
        m.refuses(ARGUMENT, "primitive", 2, p(2), 0, 0, 0);
        m.refuses(ARGUMENT, "primitive", 2, p(2, 3), 0, 0, 0);
        m.refuses(ARGUMENT, "primitive", 2, p(9), 0, 0, 0);
        m.refuses(ARGUMENT, "primitive", 2, 0, 0, 0, 0);
        m.due(1, "primitive", 2, p(2, 3, 4), 0, 0, 0);
        m.due(2, "primitive", 2, p(2, 3), 0, 0, 0);
        m.due(3, "primitive", 2, p(1), 0, 0, 0);
        m.due(1, "end", NONE);
        m.due(3, "about", 1, 0, 3);
        m.due(0, "about", 1, p(2), 3);
        m.dueField(1, p(1), NONE, 0, 0);

        says("3 WRAP a number into a list with the same bounds.");
        Run w = withEachSort();
        w.does("begin", 0);
        w.refuses(ARGUMENT, "primitive", 3, p(1), 0, 0, 0);
        w.refuses(ARGUMENT, "primitive", 3, p(5), 0, 0, 0);
        w.due(1, "primitive", 3, p(0), 0, 0, 0);
        w.due(1, "end", NONE);
        w.dueField(1, p(0), LIST, -5, 9);
    }

    private static void lift() {
        says("4 LIFT a field out of the record that it is in, to those beside that record,");
        Run r = withEachSort();
        r.does("begin", 0);
        r.refuses(ARGUMENT, "primitive", 4, p(0), 0, 0, 0);
        r.refuses(ARGUMENT, "primitive", 4, p(2), 0, 0, 0);
        r.due(1, "primitive", 4, p(2, 3, 4), 0, 0, 0);
        r.due(1, "end", NONE);
        r.dueField(1, p(2, 4), NUMBER, 1, 2);
        r.dueField(1, p(2, 3), GROUP, 0, 0);
        r.dueField(1, p(2, 3, 4), NONE, 0, 0);

        says("of which none has its name, nor that record itself;");
        Run taken = withEachSort();
        taken.does("field", p(2, 1), NUMBER, 0, 3);
        taken.does("field", p(2, 2), NUMBER, 0, 3);
        taken.does("field", p(2, 8), NUMBER, 0, 3);
        taken.does("begin", 0);
        taken.refuses(ARGUMENT, "primitive", 4, p(2, 1), 0, 0, 0);
        taken.refuses(ARGUMENT, "primitive", 4, p(2, 2), 0, 0, 0);
        taken.due(1, "primitive", 4, p(2, 8), 0, 0, 0);

        says("it takes all that is in it along.");
        Run along = withEachSort();
        along.does("field", p(2, 3, 7), GROUP, 0, 0);
        along.does("field", p(2, 3, 7, 6), LIST, 4, 5);
        along.does("begin", 0);
        along.due(1, "primitive", 4, p(2, 3), 0, 0, 0);
        along.due(1, "end", NONE);
        along.dueField(1, p(3, 4), NUMBER, 1, 2);
        along.dueField(1, p(3, 7, 6), LIST, 4, 5);
        along.due(3, "about", 1, p(3), 3);
        along.due(0, "about", 1, p(2), 3);
        along.due(8, "about", 1, 0, 3);
    }

    private static void split() {
        says("5 SPLIT a number by the base a, 2 .. 1000:");
        Run r = withEachSort();
        r.does("begin", 0);
        r.refuses(ARGUMENT, "primitive", 5, p(1), 2, 9, 0);
        r.refuses(ARGUMENT, "primitive", 5, p(5), 2, 9, 0);
        r.refuses(ARGUMENT, "primitive", 5, p(0), 1, 9, 0);
        r.refuses(ARGUMENT, "primitive", 5, p(0), 1001, 9, 0);
        r.due(1, "primitive", 5, p(0), 2, 9, 0);
        r.due(2, "primitive", 5, p(2, 3, 4), 1000, 9, 0);

        says("it becomes the quotient, rounded down, with bounds likewise;");
        Run q = withNumber(-25, 59);
        q.step(0, NONE, 5, p(0), 10, 1, 0);
        q.dueField(1, p(0), NUMBER, -3, 5);
        int[][] quotients = {{-25, -3}, {-21, -3}, {-20, -2}, {-1, -1}, {0, 0}, {9, 0}, {10, 1}, {59, 5}};
        for (int[] n : quotients) {
            dueTaken(q, n[0], p(0), n[1]);
        }

        says("the rest, from 0 to a - 1, becomes a number with the name b beside it, which is not there.");
        q.dueField(1, p(1), NUMBER, 0, 9);
        int[][] rests = {{-25, 5}, {-21, 9}, {-20, 0}, {-1, 9}, {0, 0}, {9, 9}, {10, 0}, {59, 9}};
        for (int[] n : rests) {
            dueTaken(q, n[0], p(1), n[1]);
        }
        Run beside = withEachSort();
        beside.does("begin", 0);
        beside.refuses(ARGUMENT, "primitive", 5, p(0), 3, 1, 0);
        beside.refuses(ARGUMENT, "primitive", 5, p(0), 3, 0, 0);
        beside.refuses(ARGUMENT, "primitive", 5, p(0), 3, 100, 0);
        beside.refuses(ARGUMENT, "primitive", 5, p(0), 3, -1, 0);
        beside.due(1, "primitive", 5, p(2, 3, 4), 3, 1, 0);
        beside.due(2, "primitive", 5, p(0), 3, 99, 0);
        beside.due(1, "end", NONE);
        beside.dueField(1, p(99), NUMBER, 0, 2);
        beside.dueField(1, p(2, 3, 1), NUMBER, 0, 2);
    }

    /** A record with a number is taken from version 0 to 1: what is at the path then. */
    private static void dueTaken(Run r, int number, int path, int due) {
        r.due(0, "record", 0);
        r.does("set", 0, p(0), number);
        r.does("translate", 0, 1);
        r.due(due, "get", 0, path);
        r.does("drop", 0);
    }

    private static void scaleMapSort() {
        says("6 SCALE a number by a / b (each 1 .. 1000):");
        Run r = withEachSort();
        r.does("begin", 0);
        r.refuses(ARGUMENT, "primitive", 6, p(1), 2, 3, 0);
        r.refuses(ARGUMENT, "primitive", 6, p(5), 2, 3, 0);
        for (int wrong : of(0, -1, 1001)) {
            r.refuses(ARGUMENT, "primitive", 6, p(0), wrong, 3, 0);
            r.refuses(ARGUMENT, "primitive", 6, p(0), 3, wrong, 0);
        }
        r.due(1, "primitive", 6, p(0), 1, 1000, 0);
        r.due(2, "primitive", 6, p(0), 1000, 1, 0);

        says("it becomes the quotient of a times it and b, rounded down,");
        Run q = withNumber(-9, 9);
        q.step(0, NONE, 6, p(0), 3, 2, 0);
        for (int[] n : new int[][] {{-9, -14}, {-2, -3}, {-1, -2}, {0, 0}, {1, 1}, {2, 3}, {3, 4}, {9, 13}}) {
            dueTaken(q, n[0], p(0), n[1]);
        }

        says("its bounds likewise; these must be ints.");
        q.dueField(1, p(0), NUMBER, -14, 13);
        Run wide = withNumber(-1073741825, 1073741823);
        wide.does("begin", 0);
        wide.refuses(ARGUMENT, "primitive", 6, p(0), 2, 1, 0);
        wide.due(1, "primitive", 6, p(0), 4, 3, 0);
        wide.due(1, "end", NONE);
        wide.dueField(1, p(0), NUMBER, -1431655767, 1431655764);
        Run high = withNumber(0, 1073741824);
        high.does("begin", 0);
        high.refuses(ARGUMENT, "primitive", 6, p(0), 2, 1, 0);

        says("7 MAP a number a to b: both in its bounds, different.");
        Run m = withEachSort();
        m.does("begin", 0);
        m.refuses(ARGUMENT, "primitive", 7, p(1), 2, 3, 0);
        m.refuses(ARGUMENT, "primitive", 7, p(5), 2, 3, 0);
        m.refuses(ARGUMENT, "primitive", 7, p(0), -6, 3, 0);
        m.refuses(ARGUMENT, "primitive", 7, p(0), 3, 10, 0);
        m.refuses(ARGUMENT, "primitive", 7, p(0), 3, 3, 0);
        m.due(1, "primitive", 7, p(0), -5, 9, 0);
        m.due(1, "end", NONE);
        m.dueField(1, p(0), NUMBER, -5, 9);
        dueTaken(m, -5, p(0), 9);
        dueTaken(m, 9, p(0), 9);

        says("8 SORT a list, the least first.");
        Run s = withList(-9, 9);
        s.does("begin", 0);
        s.due(1, "primitive", 8, p(0), 0, 0, 0);
        s.does("primitive", ADD, p(1), NUMBER, 0, 9);
        s.does("primitive", ADD, p(2), GROUP, 0, 0);
        s.refuses(ARGUMENT, "primitive", 8, p(1), 0, 0, 0);
        s.refuses(ARGUMENT, "primitive", 8, p(2), 0, 0, 0);
        s.due(1, "end", NONE);
        s.dueField(1, p(0), LIST, -9, 9);
        s.does("record", 0);
        s.list(0, p(0), 5, -3, 9, 5, 0, -9);
        s.does("translate", 0, 1);
        s.dueList(0, p(0), -9, -3, 0, 5, 5, 9);
    }

    public static void main(String[] args) throws IOException {
        recordTypes();
        sizeOfASchema();
        paths();
        defaults();
        versions();
        steps();
        renameAddRemoveWrap();
        lift();
        split();
        scaleMapSort();
        finishWalk("## Terms", "RECORDS have HANDLES");
    }
}
