/** The boundaries of schemas, paths and defaults, under 'Terms'. */
public final class SchemaBoundaryTest extends Boundaries {

    private static void names() {
        sentence("Terms: 'FIELDS with different NAMES 0 .. 99' - the names");
        Run r = new Run();
        r.due(1, "field", p(0), NUMBER, 0, 9);
        r.due(2, "field", p(99), GROUP, 0, 0);
        r.refusesEach(of(p(100), p(101), p(126)), 0, ARGUMENT, "field", 0, NUMBER, 0, 9);
        r.due(3, "field", p(99, 0), NUMBER, 0, 9);
        r.due(4, "field", p(99, 99), NUMBER, 0, 9);
        r.refusesEach(of(p(99, 100), p(99, 126)), 0, ARGUMENT, "field", 0, NUMBER, 0, 9);
        r.does("begin", 0);
        r.refusesEach(of(p(100), p(99, 100)), 1, ARGUMENT, "primitive", ADD, 0, NUMBER, 0, 9);
        r.due(1, "primitive", ADD, p(98), NUMBER, 0, 9);

        sentence("Terms: 'FIELDS with different NAMES 0 .. 99' - different");
        Run d = new Run();
        d.due(1, "field", p(7), GROUP, 0, 0);
        d.refuses(ARGUMENT, "field", p(7), NUMBER, 0, 9);
        d.due(2, "field", p(7, 7), GROUP, 0, 0);
        d.refuses(ARGUMENT, "field", p(7, 7), NUMBER, 0, 9);
        d.due(3, "field", p(7, 7, 7), NUMBER, 0, 9);
        d.refuses(ARGUMENT, "field", p(7, 7, 7), NUMBER, 0, 9);
        d.due(4, "field", p(6), NUMBER, 0, 9);
        d.due(5, "field", p(7, 6), NUMBER, 0, 9);
    }

    private static void sorts() {
        sentence("Terms: 'each of a SORT: 0 .. 1 .. 2'");
        Run r = new Run();
        r.due(1, "field", p(0), 0, 0, 9);
        r.due(2, "field", p(1), 1, 0, 9);
        r.due(3, "field", p(2), 2, 0, 9);
        r.refusesEach(of(-1, 3, MIN, MAX), 1, ARGUMENT, "field", p(3), 0, 0, 9);
        r.does("begin", 0);
        r.refusesEach(of(-1, 3, MIN, MAX), 2, ARGUMENT, "primitive", ADD, p(3), 0, 0, 9);
        r.due(1, "primitive", ADD, p(3), 0, 0, 9);
        r.due(2, "primitive", ADD, p(4), 1, 0, 9);
        r.due(3, "primitive", ADD, p(5), 2, 0, 9);
        r.due(1, "end", NONE);
        r.due(0, "about", 1, p(3), 0);
        r.due(1, "about", 1, p(4), 0);
        r.due(2, "about", 1, p(5), 0);
    }

    private static void boundsInOrder() {
        sentence("Terms: 'bounds low and high (low not above high)' - of a number");
        boundsOf(NUMBER);
        sentence("Terms: 'a LIST .. with bounds for each of them' - likewise");
        boundsOf(LIST);
    }

    private static void boundsOf(int sort) {
        Run r = new Run();
        r.refuses(ARGUMENT, "field", p(0), sort, 5, 4);
        r.refuses(ARGUMENT, "field", p(0), sort, MAX, MIN);
        r.refuses(ARGUMENT, "field", p(0), sort, MAX, MAX - 1);
        r.refuses(ARGUMENT, "field", p(0), sort, MIN + 1, MIN);
        r.refuses(ARGUMENT, "field", p(0), sort, 0, -1);
        r.due(1, "field", p(0), sort, 5, 5);
        r.due(2, "field", p(1), sort, 4, 5);
        r.due(3, "field", p(2), sort, MIN, MAX);
        r.due(4, "field", p(3), sort, MAX, MAX);
        r.due(5, "field", p(4), sort, MIN, MIN);
        r.dueField(0, p(0), sort, 5, 5);
        r.dueField(0, p(2), sort, MIN, MAX);
        r.does("begin", 0);
        r.refuses(ARGUMENT, "primitive", ADD, p(9), sort, 5, 4);
        r.refuses(ARGUMENT, "primitive", ADD, p(9), sort, MAX, MIN);
        r.due(1, "primitive", ADD, p(9), sort, 5, 5);
        r.due(2, "primitive", ADD, p(8), sort, MIN, MAX);
        r.due(1, "end", NONE);
        r.dueField(1, p(9), sort, 5, 5);
        r.dueField(1, p(8), sort, MIN, MAX);
    }

    private static void listOfSix() {
        sentence("Terms: 'a LIST of up to 6 numbers'");
        Run r = withList(0, 9);
        r.does("record", 0);
        for (int i = 0; i < 6; i++) {
            r.due(i + 1, "put", 0, p(0), i, i);
        }
        r.refuses(ARGUMENT, "put", 0, p(0), 6, 1);
        r.dueList(0, p(0), 0, 1, 2, 3, 4, 5);
        r.step(0, NONE);
        r.due(1, "translate", 0, 1);
        r.dueList(0, p(0), 0, 1, 2, 3, 4, 5);
    }

    private static void noFields() {
        sentence("Terms: 'a record type, which may have no fields' - a field");
        Run r = new Run();
        r.due(1, "field", p(4), GROUP, 0, 0);
        r.dueField(0, p(4), GROUP, 0, 0);
        r.due(0, "about", 0, p(4), 3);
        r.due(0, "record", 0);
        r.due(1, "copy", 0);
        r.due(1, "same", 0, 1);
        r.refuses(ARGUMENT, "get", 0, p(4));
        r.refuses(ARGUMENT, "size", 0, p(4));
        r.step(0, NONE, REMOVE, p(4), 0, 0, 0);
        r.due(1, "translate", 0, 1);
        r.due(0, "kept", 0);
        r.due(0, "same", 0, 1);
        r.due(1, "translate", 1, 1);
        r.due(1, "same", 0, 1);
    }

    private static void wholeSchemaWithoutFields() {
        sentence("Terms: 'a record type, which may have no fields' - a whole schema");
        Run r = new Run();
        r.due(0, "record", 0);
        r.due(1, "record", 0);
        r.due(1, "same", 0, 1);
        r.step(0, NONE);
        r.step(0, 1);
        r.due(0, "clash", 0);
        r.due(1, "translate", 0, 1);
        r.due(0, "same", 0, 1);
        r.due(0, "about", 1, 0, 3);
        r.step(1, NONE, ADD, p(0), NUMBER, 3, 3);
        r.due(1, "translate", 0, 2);
        r.due(3, "get", 0, p(0));
        r.due(2, "translate", 0, 0);
        r.due(0, "kept", 0);
    }

    private static void fieldsInAll() {
        sentence("Terms: 'A schema has at most 24 fields in all' - told by field");
        Run r = withNumbers(23);
        r.due(24, "field", p(50), GROUP, 0, 0);
        r.due(24, "about", 0, 0, 3);
        r.refuses(STATE, "field", p(51), NUMBER, 0, 9);
        r.refuses(STATE, "field", p(50, 1), NUMBER, 0, 9);

        sentence("Terms: 'A schema has at most 24 fields in all' - those in records too");
        Run in = new Run();
        in.due(1, "field", p(0), GROUP, 0, 0);
        in.due(2, "field", p(0, 0), GROUP, 0, 0);
        for (int name = 0; name < 11; name++) {
            in.due(3 + 2 * name, "field", p(0, 0, name), NUMBER, 0, 9);
            in.due(4 + 2 * name, "field", p(0, name + 1), NUMBER, 0, 9);
        }
        in.due(23, "about", 0, p(0), 3);
        in.refuses(STATE, "field", p(1), NUMBER, 0, 9);
        in.refuses(STATE, "field", p(0, 0, 50), NUMBER, 0, 9);
        in.does("begin", 0);
        in.refuses(ARGUMENT, "primitive", ADD, p(1), NUMBER, 0, 9);
        in.refuses(ARGUMENT, "primitive", SPLIT, p(0, 0, 1), 2, 50, 0);
        in.due(1, "primitive", REMOVE, p(0, 0, 1), 0, 0, 0);
        in.due(2, "primitive", SPLIT, p(0, 0, 2), 2, 50, 0);
        in.refuses(ARGUMENT, "primitive", SPLIT, p(0, 0, 2), 2, 51, 0);
    }

    private static void depth() {
        sentence("Terms: 'none deeper than four names' - told by field");
        int four = p(1, 2, 3, 4);
        Run r = new Run();
        r.due(1, "field", p(1), GROUP, 0, 0);
        r.due(2, "field", p(1, 2), GROUP, 0, 0);
        r.due(3, "field", p(1, 2, 3), GROUP, 0, 0);
        r.due(4, "field", four, GROUP, 0, 0);
        r.due(5, "field", p(1, 2, 3, 99), NUMBER, 0, 9);
        r.due(6, "field", p(1, 2, 3, 0), LIST, 0, 9);
        r.refusesEach(of(four | 1 << 28, four | 2 << 28, four | MIN), 0, ARGUMENT, "field", 0, NUMBER, 0, 9);

        sentence("Terms: 'none deeper than four names' - by ADD");
        r.does("begin", 0);
        r.refusesEach(of(four | 1 << 28, four | MIN), 1, ARGUMENT, "primitive", ADD, 0, NUMBER, 0, 9);
        r.due(1, "primitive", ADD, p(1, 2, 3, 5), NUMBER, 0, 9);
        r.due(2, "primitive", ADD, p(1, 2, 3, 6), GROUP, 0, 9);
        r.due(3, "primitive", SPLIT, p(1, 2, 3, 99), 2, 98, 0);
        r.due(1, "end", NONE);
        r.dueField(1, p(1, 2, 3, 98), NUMBER, 0, 1);
        r.due(9, "about", 1, 0, 3);
        r.due(6, "about", 1, p(1, 2, 3), 3);
        r.due(0, "about", 1, four, 3);
    }

    /** Ints that would lead to a field, were their wrong bits not looked at. */
    private static int[] nowhere() {
        return of(1 << 7, p(0) << 14, p(0) | 1 << 28, p(0) | MIN, p(0) | 1 << 30, p(2) | 1 << 14,
                p(2) | 1 << 21, p(2, 0) | 1 << 21, p(2, 0, 0, 0) | 1 << 28, p(2, 0, 0, 0) | MIN, -1, MIN,
                p(100), 127, p(2, 100), p(2, 126), p(0) | 100 << 21);
    }

    private static Run withPaths() {
        Run r = new Run();
        r.does("field", p(0), NUMBER, 0, 9);
        r.does("field", p(1), LIST, 0, 9);
        r.does("field", p(2), GROUP, 0, 0);
        r.does("field", p(2, 0), GROUP, 0, 0);
        r.does("field", p(2, 0, 0), GROUP, 0, 0);
        r.does("field", p(2, 0, 0, 0), NUMBER, 0, 9);
        r.does("field", p(2, 1), LIST, 0, 9);
        return r;
    }

    private static void pathsNowhere() {
        sentence("Terms: 'then there are 0s alone (any other int leads nowhere, as one without a field)' - about");
        Run r = withPaths();
        for (int path : nowhere()) {
            r.dueField(0, path, NONE, 0, 0);
            r.due(0, "about", 0, path, 3);
        }
        r.dueField(0, p(2, 0, 0, 0), NUMBER, 0, 9);

        sentence("Terms: 'any other int leads nowhere' - field");
        for (int path : nowhere()) {
            r.refuses(ARGUMENT, "field", path, NUMBER, 0, 9);
        }
        r.due(8, "field", p(2, 0, 0, 1), NUMBER, 0, 9);
    }

    private static void pathsOfRecordsNowhere() {
        sentence("Terms: 'any other int leads nowhere' - set, put, cut, get, size, item");
        Run r = withPaths();
        r.does("record", 0);
        r.does("put", 0, p(1), 0, 4);
        for (int path : of(1 << 7, p(0) | 1 << 28, p(0) | MIN, p(0) << 14, p(2, 0, 0, 0) | 1 << 28, -1)) {
            r.refuses(ARGUMENT, "set", 0, path, 3);
            r.refuses(ARGUMENT, "get", 0, path);
        }
        for (int path : of(2 << 7, p(1) | 1 << 28, p(1) | MIN, p(2) | 2 << 14, p(2, 1) | 1 << 28, -1)) {
            r.refuses(ARGUMENT, "put", 0, path, 0, 3);
            r.refuses(ARGUMENT, "cut", 0, path, 0);
            r.refuses(ARGUMENT, "size", 0, path);
            r.refuses(ARGUMENT, "item", 0, path, 0);
        }
        r.does("set", 0, p(2, 0, 0, 0), 3);
        r.due(3, "get", 0, p(2, 0, 0, 0));
        r.due(1, "put", 0, p(2, 1), 0, 3);
    }

    private static void pathsOfPrimitivesNowhere() {
        sentence("Terms: 'any other int leads nowhere' - primitive");
        Run r = withPaths();
        r.does("begin", 0);
        for (int path : of(1 << 7, p(0) | 1 << 28, p(0) | MIN, p(2, 0, 0, 0) | 1 << 28, p(100), -1)) {
            r.refuses(ARGUMENT, "primitive", RENAME, path, 50, 0, 0);
            r.refuses(ARGUMENT, "primitive", ADD, path, NUMBER, 0, 9);
            r.refuses(ARGUMENT, "primitive", REMOVE, path, 0, 0, 0);
            r.refuses(ARGUMENT, "primitive", WRAP, path, 0, 0, 0);
            r.refuses(ARGUMENT, "primitive", LIFT, path, 0, 0, 0);
            r.refuses(ARGUMENT, "primitive", SPLIT, path, 2, 50, 0);
            r.refuses(ARGUMENT, "primitive", SCALE, path, 1, 2, 0);
            r.refuses(ARGUMENT, "primitive", MAP, path, 1, 2, 0);
        }
        for (int path : of(2 << 7, p(1) | 1 << 28, p(2, 1) | 1 << 28, p(1) | MIN)) {
            r.refuses(ARGUMENT, "primitive", SORT, path, 0, 0, 0);
        }
        r.due(1, "primitive", SORT, p(2, 1), 0, 0, 0);
        r.due(2, "primitive", WRAP, p(2, 0, 0, 0), 0, 0, 0);
    }

    private static void wholeRecord() {
        sentence("Terms: 'It leads from the whole record (path 0)'");
        Run r = withEachSort();
        r.dueField(0, 0, GROUP, 0, 0);
        r.due(6, "about", 0, 0, 3);
        r.refuses(ARGUMENT, "field", 0, NUMBER, 0, 9);
        r.refuses(ARGUMENT, "field", 0, GROUP, 0, 0);
        r.does("record", 0);
        r.refuses(ARGUMENT, "set", 0, 0, 0);
        r.refuses(ARGUMENT, "get", 0, 0);
        r.refuses(ARGUMENT, "put", 0, 0, 0, 0);
        r.refuses(ARGUMENT, "cut", 0, 0, 0);
        r.refuses(ARGUMENT, "size", 0, 0);
        r.refuses(ARGUMENT, "item", 0, 0, 0);
        r.does("begin", 0);
        for (int kind = 0; kind < 9; kind++) {
            r.refuses(ARGUMENT, "primitive", kind, 0, 2, 8, 9);
        }
        Run empty = new Run();
        empty.does("begin", 0);
        for (int kind = 0; kind < 9; kind++) {
            empty.refuses(ARGUMENT, "primitive", kind, 0, 2, 8, 9);
        }
    }

    private static void defaults() {
        int[][] bounds = {{1, 9, 1}, {0, 9, 0}, {-1, 9, 0}, {-9, 1, 0}, {-9, 0, 0}, {-9, -1, -1},
            {MIN, MAX, 0}, {MIN, MIN, MIN}, {MAX, MAX, MAX}, {MIN, -1, -1}, {1, MAX, 1}};
        sentence("Terms: 'The DEFAULT of a number is the one in its bounds that is nearest to 0' - record");
        for (int[] b : bounds) {
            Run r = withNumber(b[0], b[1]);
            r.does("record", 0);
            r.due(b[2], "get", 0, p(0));
        }
        sentence("Terms: 'the DEFAULT of a number' - ADD forth, WRAP back, REMOVE back");
        for (int[] b : bounds) {
            Run r = new Run();
            r.step(0, NONE, ADD, p(0), NUMBER, b[0], b[1]);
            r.step(1, NONE, WRAP, p(0), 0, 0, 0);
            r.step(1, NONE, REMOVE, p(0), 0, 0, 0);
            r.does("record", 0);
            r.dueMove(0, 1, b[2], 0);
            r.does("record", 2);
            r.dueMove(1, 1, b[2], 1);
            r.does("record", 3);
            r.dueMove(2, 1, b[2], 0);
        }
        sentence("Terms: 'that of a list is without numbers'");
        Run r = withList(5, 9);
        r.step(0, NONE, ADD, p(1), LIST, 5, 9);
        r.step(0, NONE, REMOVE, p(0), 0, 0, 0);
        r.does("record", 0);
        r.dueList(0, p(0));
        r.does("translate", 0, 1);
        r.dueList(0, p(1));
        r.does("record", 2);
        r.does("translate", 1, 0);
        r.dueList(1, p(0));
    }

    public static void main(String[] args) {
        names();
        sorts();
        boundsInOrder();
        listOfSix();
        noFields();
        wholeSchemaWithoutFields();
        fieldsInAll();
        depth();
        pathsNowhere();
        pathsOfRecordsNowhere();
        pathsOfPrimitivesNowhere();
        wholeRecord();
        defaults();
        finish();
    }
}
