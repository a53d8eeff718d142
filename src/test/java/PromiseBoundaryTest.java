/** The boundaries that promises 1 to 23 name, each call's exceptions and which of them comes first. */
public final class PromiseBoundaryTest extends Boundaries {

    private static void newObject() {
        sentence("Promise 1: 'Version 0 without fields; no steps, no records'");
        Run r = new Run();
        r.due(1, "count", 0);
        r.due(0, "count", 1);
        r.due(0, "count", 2);
        r.due(NONE, "count", 3);
        r.due(0, "about", 0, 0, 3);
        r.due(NONE, "about", 0, p(0), 0);
        r.refuses(INDEX, "about", 1, 0, 0);
        r.refuses(INDEX, "begin", 1);
        r.refuses(INDEX, "record", 1);
        r.refuses(INDEX, "route", 0, 1, 0);
        r.refuses(INDEX, "clash", 0);
        r.refuses(INDEX, "version", 0);
        r.refuses(STATE, "end", NONE);
        r.due(0, "leave");
        r.due(0, "route", 0, 0, 0);
        r.due(1, "field", p(0), NUMBER, 0, 9);
    }

    private static void fieldBehindABeginning() {
        sentence("Promise 2: 'IllegalStateException: a step or record was begun ever' - a step");
        Run s = withNumber(0, 9);
        s.due(2, "field", p(1), NUMBER, 0, 9);
        s.does("begin", 0);
        s.refuses(STATE, "field", p(2), NUMBER, 0, 9);
        s.due(1, "leave");
        s.refuses(STATE, "field", p(2), NUMBER, 0, 9);
        s.step(0, NONE);
        s.refuses(STATE, "field", p(2), NUMBER, 0, 9);

        sentence("Promise 2: 'IllegalStateException: a step or record was begun ever' - a record");
        Run r = withNumber(0, 9);
        r.does("record", 0);
        r.refuses(STATE, "field", p(2), NUMBER, 0, 9);
        r.does("drop", 0);
        r.refuses(STATE, "field", p(2), NUMBER, 0, 9);

        sentence("Promise 2: '.. was begun ever' - not by a call that threw, nor by one that only asks");
        Run n = new Run();
        n.refusesEach(of(1, -1), 0, INDEX, "begin", 0);
        n.refusesEach(of(1, -1), 0, INDEX, "record", 0);
        n.refuses(INDEX, "copy", 0);
        n.due(0, "leave");
        n.due(0, "route", 0, 0, 0);
        n.due(2, "about", 0, 0, 0);
        n.due(1, "field", p(2), NUMBER, 0, 9);
    }

    private static void fieldRefused() {
        sentence("Promise 2: 'IllegalStateException: .. there are 24'");
        Run full = withNumbers(22);
        full.due(23, "field", p(50), GROUP, 0, 0);
        full.due(24, "field", p(50, 0), NUMBER, 0, 9);
        full.refuses(STATE, "field", p(51), NUMBER, 0, 9);
        full.due(24, "about", 0, 0, 3);

        sentence("Promise 2: 'IllegalArgumentException: there is no such record'");
        Run r = withEachSort();
        r.refuses(ARGUMENT, "field", p(9, 1), NUMBER, 0, 9);
        r.refuses(ARGUMENT, "field", p(0, 1), NUMBER, 0, 9);
        r.refuses(ARGUMENT, "field", p(1, 1), NUMBER, 0, 9);
        r.refuses(ARGUMENT, "field", p(2, 1, 1), NUMBER, 0, 9);
        r.refuses(ARGUMENT, "field", p(2, 3, 4, 1), NUMBER, 0, 9);
        r.due(7, "field", p(5, 1), NUMBER, 0, 9);
        r.due(8, "field", p(2, 3, 5), NUMBER, 0, 9);

        sentence("Promise 2: 'IllegalArgumentException: .. it has that name'");
        r.refuses(ARGUMENT, "field", p(5, 1), LIST, 0, 9);
        r.refuses(ARGUMENT, "field", p(0), NUMBER, -5, 9);
        r.refuses(ARGUMENT, "field", p(2), GROUP, 0, 0);
        r.due(9, "field", p(5, 2), LIST, 0, 9);

        sentence("Promise 2: 'IllegalArgumentException: .. the sort is none'");
        r.refusesEach(of(-1, 3, MIN, MAX), 1, ARGUMENT, "field", p(10), 0, 0, 9);
        r.due(10, "field", p(10), GROUP, 0, 9);

        sentence("Promise 2: 'IllegalArgumentException: .. bounds (of sorts 0 and 1) are not in order'");
        r.refuses(ARGUMENT, "field", p(11), NUMBER, 1, 0);
        r.refuses(ARGUMENT, "field", p(11), LIST, 1, 0);
        r.due(11, "field", p(11), NUMBER, 1, 1);
        r.due(12, "field", p(12), LIST, 1, 1);
        r.due(13, "field", p(13), GROUP, 1, 0);
    }

    private static void fieldOrder() {
        sentence("Promise 2: IllegalStateException is named first");
        Run full = withNumbers(24);
        full.refuses(STATE, "field", p(0), NUMBER, 0, 9);
        full.refuses(STATE, "field", p(50), 3, 0, 9);
        full.refuses(STATE, "field", p(50), NUMBER, 1, 0);
        full.refuses(STATE, "field", p(50, 1), NUMBER, 0, 9);
        full.refuses(STATE, "field", -1, NUMBER, 0, 9);
        Run begun = withNumber(0, 9);
        begun.does("begin", 0);
        begun.refuses(STATE, "field", p(0), 3, 1, 0);
        begun.refuses(STATE, "field", 0, NUMBER, 0, 9);
    }

    private static void beginRefused() {
        sentence("Promise 3: 'IndexOutOfBoundsException' - of begin");
        Run r = withVersions(3);
        r.refusesEach(of(3, -1, 8, MIN, MAX), 0, INDEX, "begin", 0);
        r.does("begin", 2);
        r.due(0, "count", 3);

        sentence("Promise 3: 'IllegalStateException: one is under way'");
        r.refusesEach(of(0, 1, 2), 0, STATE, "begin", 0);
        r.due(1, "primitive", WRAP, p(0), 0, 0, 0);
        r.refuses(STATE, "begin", 0);
        r.due(1, "count", 3);

        sentence("Promise 3: IndexOutOfBoundsException is named first");
        r.refusesEach(of(3, -1), 0, INDEX, "begin", 0);
        r.due(1, "leave");
        r.does("begin", 0);
        r.due(0, "count", 3);
        r.due(3, "end", NONE);
        r.does("begin", 3);
    }

    private static void primitiveRefused() {
        sentence("Promise 4: 'IllegalStateException: none is under way'");
        Run r = withNumber(0, 9);
        r.refuses(STATE, "primitive", WRAP, p(0), 0, 0, 0);
        r.does("begin", 0);
        r.due(1, "primitive", WRAP, p(0), 0, 0, 0);
        r.due(1, "leave");
        r.refuses(STATE, "primitive", WRAP, p(0), 0, 0, 0);
        r.step(0, NONE);
        r.refuses(STATE, "primitive", WRAP, p(0), 0, 0, 0);

        sentence("Promise 4: 'IllegalStateException: .. it has 8'");
        r.does("begin", 0);
        for (int i = 1; i <= 8; i++) {
            r.due(i, "primitive", SPLIT, p(0), 2, i, 0);
        }
        r.refuses(STATE, "primitive", SPLIT, p(0), 2, 9, 0);
        r.due(8, "count", 3);

        sentence("Promise 4: IllegalStateException is named first");
        r.refuses(STATE, "primitive", 9, p(0), 2, 9, 0);
        r.refuses(STATE, "primitive", SPLIT, p(50), 1, 100, 0);
        r.due(1, "leave");
        r.refuses(STATE, "primitive", 9, p(0), 2, 9, 0);
        r.refuses(STATE, "primitive", -1, -1, 0, 0, 0);
    }

    private static void primitiveKinds() {
        sentence("Promise 4: 'IllegalArgumentException: there is no such kind'");
        Run r = withEachSort();
        r.does("begin", 0);
        r.refusesEach(of(-1, 9, 10, MIN, MAX), 0, ARGUMENT, "primitive", 0, p(0), 9, 8, 9);
        r.refusesEach(of(-1, 9), 0, ARGUMENT, "primitive", 0, p(9), 0, 0, 9);
        r.due(1, "primitive", 8, p(1), 0, 0, 0);
        r.due(2, "primitive", 0, p(0), 9, 0, 0);

        sentence("Promise 4: 'IllegalArgumentException: .. there would be more than 24 fields'");
        Run full = withNumbers(23);
        full.does("begin", 0);
        full.due(1, "primitive", ADD, p(50), GROUP, 0, 0);
        full.refuses(ARGUMENT, "primitive", ADD, p(51), NUMBER, 0, 9);
        full.refuses(ARGUMENT, "primitive", ADD, p(50, 1), GROUP, 0, 9);
        full.refuses(ARGUMENT, "primitive", SPLIT, p(0), 2, 51, 0);
        full.due(2, "primitive", WRAP, p(1), 0, 0, 0);
        full.due(3, "primitive", RENAME, p(2), 60, 0, 0);
        full.due(4, "primitive", REMOVE, p(50), 0, 0, 0);
        full.due(5, "primitive", SPLIT, p(0), 2, 51, 0);
        full.refuses(ARGUMENT, "primitive", SPLIT, p(0), 2, 52, 0);
        full.due(1, "end", NONE);
        full.due(24, "about", 1, 0, 3);
        full.due(0, "record", 1);
        full.due(1, "translate", 0, 0);
    }

    private static void endRefused() {
        sentence("Promise 5: 'IllegalStateException: none is under way' - of end");
        Run r = withNumber(0, 9);
        r.refuses(STATE, "end", NONE);
        r.does("begin", 0);
        r.due(1, "end", NONE);
        r.refuses(STATE, "end", NONE);
        r.refuses(STATE, "end", 0);
        r.does("begin", 0);
        r.does("leave");
        r.refuses(STATE, "end", NONE);

        sentence("Promise 5: 'IndexOutOfBoundsException' - of end");
        r.does("begin", 0);
        r.refusesEach(of(2, -2, 8, MIN, MAX), 0, INDEX, "end", 0);
        r.due(0, "count", 3);
        r.due(1, "end", 1);
        r.due(2, "count", 0);

        sentence("Promise 5: 'IllegalArgumentException: .. is the one it comes from'");
        r.does("begin", 1);
        r.refuses(ARGUMENT, "end", 1);
        r.due(0, "end", 0);

        sentence("Promise 5: 'UnsupportedOperationException: there are 8 versions (for a new one)'");
        Run v = withVersions(8);
        v.does("begin", 0);
        v.refuses(UNSUPPORTED, "end", NONE);
        v.due(0, "count", 3);
        v.due(7, "end", 7);
        v.due(8, "count", 0);

        sentence("Promise 5: 'UnsupportedOperationException: .. 16 steps'");
        Run s = withSteps(16);
        s.does("begin", 1);
        s.refuses(UNSUPPORTED, "end", 0);
        s.refuses(UNSUPPORTED, "end", NONE);
        s.due(2, "count", 0);
        s.due(0, "count", 3);
        s.due(1, "leave");
        Run inside = withSteps(15);
        inside.does("begin", 1);
        inside.due(2, "end", NONE);
        inside.due(16, "count", 1);
    }

    private static void endOtherSchema() {
        sentence("Promise 5: 'IllegalArgumentException: that version has another schema' - by one thing alone");
        int[][] others = {{RENAME, p(0), 9, 0, 0}, {ADD, p(9), NUMBER, 0, 9}, {REMOVE, p(0), 0, 0, 0},
            {WRAP, p(0), 0, 0, 0}, {LIFT, p(2, 3), 0, 0, 0}, {SPLIT, p(0), 2, 9, 0}, {SCALE, p(0), 2, 1, 0},
            {ADD, p(5, 0), GROUP, 0, 0}, {REMOVE, p(5), 0, 0, 0}, {SCALE, p(2, 3, 4), 1, 2, 0}};
        for (int[] other : others) {
            Run r = withEachSort();
            r.step(0, NONE);
            r.does("begin", 0);
            r.does("primitive", other);
            r.refuses(ARGUMENT, "end", 1);
            r.due(2, "end", NONE);
        }
        sentence("Promise 5: 'one that has just the schema that it makes'");
        int[][] bounds = {{0, 9, 0, 9, 1}, {0, 9, -1, 9, 0}, {0, 9, 0, 8, 0}, {0, 9, 1, 9, 0}, {0, 9, 0, 10, 0}};
        for (int[] b : bounds) {
            for (int sort : of(NUMBER, LIST)) {
                Run r = new Run();
                r.does("field", p(3), sort, b[0], b[1]);
                r.step(0, NONE);
                r.does("begin", 0);
                r.does("primitive", REMOVE, p(3), 0, 0, 0);
                r.does("primitive", ADD, p(3), sort, b[2], b[3]);
                if (b[4] == 1) {
                    r.due(1, "end", 1);
                } else {
                    r.refuses(ARGUMENT, "end", 1);
                }
            }
        }
        Run r = new Run();
        r.does("field", p(3), NUMBER, 0, 9);
        r.step(0, NONE);
        r.does("begin", 0);
        r.does("primitive", REMOVE, p(3), 0, 0, 0);
        r.does("primitive", ADD, p(3), LIST, 0, 9);
        r.refuses(ARGUMENT, "end", 1);
        r.does("primitive", REMOVE, p(3), 0, 0, 0);
        r.does("primitive", ADD, p(3), GROUP, 0, 9);
        r.refuses(ARGUMENT, "end", 1);
        r.does("primitive", ADD, p(3, 3), NUMBER, 0, 9);
        r.does("primitive", RENAME, p(3), 4, 0, 0);
        r.does("primitive", LIFT, p(4, 3), 0, 0, 0);
        r.refuses(ARGUMENT, "end", 1);
        r.does("primitive", REMOVE, p(4), 0, 0, 0);
        r.due(1, "end", 1);
    }

    private static void endOrder() {
        sentence("Promise 5: IllegalStateException is named first");
        Run full = withVersions(8);
        for (int s = 7; s < 16; s++) {
            full.step(0, 1);
        }
        full.refuses(STATE, "end", 8);
        full.refuses(STATE, "end", 0);
        full.refuses(STATE, "end", 1);
        full.refuses(STATE, "end", NONE);

        sentence("Promise 5: IndexOutOfBoundsException is named before the others");
        full.does("begin", 0);
        full.does("primitive", WRAP, p(0), 0, 0, 0);
        full.refusesEach(of(8, -2, MAX), 0, INDEX, "end", 0);

        sentence("Promise 5: IllegalArgumentException is named before UnsupportedOperationException");
        full.refuses(ARGUMENT, "end", 1);
        full.refuses(ARGUMENT, "end", 0);
        full.refuses(UNSUPPORTED, "end", NONE);
        full.does("leave");
        full.does("begin", 0);
        full.refuses(ARGUMENT, "end", 0);
        full.refuses(UNSUPPORTED, "end", 1);
        full.refuses(UNSUPPORTED, "end", NONE);
    }

    private static void leave() {
        sentence("Promise 6: 'The step under way is none any more: whether there was one'");
        Run r = withNumber(0, 9);
        r.due(0, "leave");
        r.does("begin", 0);
        r.due(1, "primitive", WRAP, p(0), 0, 0, 0);
        r.due(1, "leave");
        r.due(0, "leave");
        r.due(NONE, "count", 3);
        r.due(1, "count", 0);
        r.due(0, "count", 1);
        r.does("begin", 0);
        r.due(0, "count", 3);
        r.due(1, "primitive", WRAP, p(0), 0, 0, 0);
        r.due(1, "end", NONE);
        r.due(0, "leave");
        r.due(2, "count", 0);
    }

    private static void about() {
        sentence("Promise 7: 'what = 0 its sort, NONE when there is none (2 for path 0)'");
        Run r = withEachSort();
        r.due(0, "about", 0, p(0), 0);
        r.due(1, "about", 0, p(1), 0);
        r.due(2, "about", 0, p(2), 0);
        r.due(2, "about", 0, 0, 0);
        r.due(NONE, "about", 0, p(9), 0);
        r.due(NONE, "about", 0, p(0, 0), 0);
        r.due(NONE, "about", 0, p(2, 4), 0);

        sentence("Promise 7: '1 low, 2 high (0 for a record type, or none)'");
        r.due(-5, "about", 0, p(0), 1);
        r.due(9, "about", 0, p(0), 2);
        for (int what : of(1, 2)) {
            r.due(0, "about", 0, p(2), what);
            r.due(0, "about", 0, p(5), what);
            r.due(0, "about", 0, 0, what);
            r.due(0, "about", 0, p(9), what);
        }
        sentence("Promise 7: '3 how many fields are in it, at any depth (of path 0: of the schema)'");
        r.due(6, "about", 0, 0, 3);
        r.due(2, "about", 0, p(2), 3);
        r.due(1, "about", 0, p(2, 3), 3);
        r.due(0, "about", 0, p(2, 3, 4), 3);
        r.due(0, "about", 0, p(5), 3);
        r.due(0, "about", 0, p(0), 3);
        r.due(0, "about", 0, p(9), 3);

        sentence("Promise 7: 'IndexOutOfBoundsException' - of about");
        r.refusesEach(of(1, -1, 8, MIN, MAX), 0, INDEX, "about", 0, p(0), 0);
        r.step(0, NONE, REMOVE, p(0), 0, 0, 0);
        r.due(NONE, "about", 1, p(0), 0);
        r.due(5, "about", 1, 0, 3);
        r.refuses(INDEX, "about", 2, p(0), 0);

        sentence("Promise 7: 'IllegalArgumentException: what is none of these'");
        r.refusesEach(of(-1, 4, MIN, MAX), 2, ARGUMENT, "about", 0, p(0), 0);
        r.refusesEach(of(-1, 4), 2, ARGUMENT, "about", 0, 0, 0);
        r.refusesEach(of(-1, 4), 2, ARGUMENT, "about", 0, p(9), 0);

        sentence("Promise 7: IndexOutOfBoundsException is named first");
        r.refusesEach(of(-1, 4), 2, INDEX, "about", 2, p(0), 0);
        r.refusesEach(of(-1, 4), 2, INDEX, "about", -1, p(0), 0);
    }

    private static void count() {
        sentence("Promise 8: 'How many: what = 0 .. 3', none and most");
        Run v = withVersions(8);
        v.due(8, "count", 0);
        v.due(7, "count", 1);
        Run s = withSteps(16);
        s.due(16, "count", 1);
        s.due(NONE, "count", 3);
        Run r = withRecords(16);
        r.due(16, "count", 2);
        r.does("drop", 15);
        r.does("drop", 0);
        r.due(14, "count", 2);
        r.does("begin", 0);
        r.due(0, "count", 3);
        for (int i = 1; i <= 8; i++) {
            r.does("primitive", SPLIT, p(0), 2, i, 0);
            r.due(i, "count", 3);
        }
        sentence("Promise 8: 'IllegalArgumentException: what is none of these'");
        r.refusesEach(of(-1, 4, MIN, MAX), 0, ARGUMENT, "count", 0);
        r.due(8, "count", 3);
        r.due(1, "count", 0);
    }

    private static void record() {
        sentence("Promise 9: 'the least handle that is free'");
        Run r = withRecords(16);
        r.does("drop", 15);
        r.does("drop", 7);
        r.due(7, "record", 0);
        r.due(15, "record", 0);
        r.does("drop", 0);
        r.due(0, "record", 0);

        sentence("Promise 9: 'UnsupportedOperationException: none is free'");
        for (int h = 0; h < 16; h++) {
            r.does("set", h, p(0), 1 + h / 2);
        }
        r.refuses(UNSUPPORTED, "record", 0);
        r.does("drop", 3);
        r.due(3, "record", 0);
        r.refuses(UNSUPPORTED, "record", 0);

        sentence("Promise 9: 'IndexOutOfBoundsException' - of record");
        Run i = withVersions(2);
        i.refusesEach(of(2, -1, 8, MIN, MAX), 0, INDEX, "record", 0);
        i.due(0, "record", 1);
        i.due(1, "record", 0);

        sentence("Promise 9: IndexOutOfBoundsException is named first");
        r.refusesEach(of(1, -1, MAX), 0, INDEX, "record", 0);

        sentence("Promise 9: 'all of it default, nothing kept' - where another record was");
        Run d = withNumber(2, 9);
        d.does("field", p(1), LIST, 0, 9);
        d.step(0, NONE, REMOVE, p(0), 0, 0, 0);
        d.does("record", 0);
        d.does("set", 0, p(0), 5);
        d.does("put", 0, p(1), 0, 6);
        d.does("translate", 0, 1);
        d.does("drop", 0);
        d.due(0, "record", 1);
        d.due(0, "kept", 0);
        d.dueList(0, p(1));
        d.dueMove(0, 0, 2, 0);
    }

    private static void copy() {
        sentence("Promise 10: 'A record as another one is, with what is kept: the least handle that is free'");
        Run r = withNumber(0, 9);
        r.step(0, NONE, REMOVE, p(0), 0, 0, 0);
        r.does("record", 0);
        r.does("set", 0, p(0), 5);
        r.does("translate", 0, 1);
        for (int h = 1; h < 15; h++) {
            r.due(h, "copy", h - 1);
        }
        r.does("drop", 4);
        r.due(4, "copy", 14);
        r.due(15, "copy", 0);

        sentence("Promise 10: 'UnsupportedOperationException: none is free'");
        r.dueMove(3, 0, 5, 0);
        r.refuses(UNSUPPORTED, "copy", 3);
        r.refuses(UNSUPPORTED, "copy", 0);
        r.refuses(UNSUPPORTED, "copy", 15);

        sentence("Promise 10: IndexOutOfBoundsException is named first");
        r.refusesEach(of(-1, 16, MIN, MAX), 0, INDEX, "copy", 0);

        sentence("Promise 10: 'IndexOutOfBoundsException' - of copy");
        r.does("drop", 9);
        r.refusesEach(of(9, -1, 16, MIN, MAX), 0, INDEX, "copy", 0);
        r.due(9, "copy", 15);
        r.due(1, "kept", 9);
        r.dueMove(9, 0, 5, 0);
        r.due(1, "kept", 15);
    }

    private static void drop() {
        sentence("Promise 11: 'A record is no more. IndexOutOfBoundsException.'");
        Run r = withRecords(3);
        r.refusesEach(of(3, 15, 16, -1, MIN, MAX), 0, INDEX, "drop", 0);
        r.does("drop", 1);
        r.due(2, "count", 2);
        r.refuses(INDEX, "drop", 1);
        r.refuses(INDEX, "get", 1, p(0));
        r.due(0, "get", 0, p(0));
        r.due(0, "get", 2, p(0));
        r.does("drop", 0);
        r.does("drop", 2);
        r.due(0, "count", 2);
        r.refusesEach(of(0, 1, 2), 0, INDEX, "drop", 0);
        r.due(0, "record", 0);
        r.does("drop", 0);
        Run full = withRecords(16);
        full.does("drop", 15);
        full.refuses(INDEX, "drop", 15);
    }

    /** A number 1, a list 2 with two numbers, a record 3; the records 0 and 2 alone. */
    private static Run withValues() {
        Run r = new Run();
        r.does("field", p(1), NUMBER, -3, 7);
        r.does("field", p(2), LIST, 4, 8);
        r.does("field", p(3), GROUP, 0, 0);
        r.does("record", 0);
        r.does("record", 0);
        r.does("record", 0);
        r.does("drop", 1);
        r.does("set", 0, p(1), 2);
        r.list(0, p(2), 5, 6);
        return r;
    }

    private static final int[] NO_HANDLES = {1, 3, 15, 16, -1, MIN, MAX};

    private static final int[] NO_NUMBERS = {p(2), p(3), 0, p(4), p(1, 1), p(3, 1), -1};

    private static final int[] NO_LISTS = {p(1), p(3), 0, p(4), p(2, 1), p(3, 1), -1};

    private static void setAndGet() {
        sentence("Promise 12: 'IndexOutOfBoundsException' - of set, named first");
        Run r = withValues();
        r.refusesEach(NO_HANDLES, 0, INDEX, "set", 0, p(1), 3);
        r.refusesEach(NO_HANDLES, 0, INDEX, "set", 0, p(2), 99);

        sentence("Promise 12: 'IllegalArgumentException: there is no number at the path'");
        r.refusesEach(NO_NUMBERS, 1, ARGUMENT, "set", 0, 0, 5);
        r.does("set", 2, p(1), 5);
        r.due(5, "get", 2, p(1));
        r.due(2, "get", 0, p(1));

        sentence("Promise 12: 'IllegalArgumentException: .. value is not in its bounds'");
        r.refusesEach(of(-4, 8, MIN, MAX), 2, ARGUMENT, "set", 0, p(1), 0);
        r.does("set", 0, p(1), -3);
        r.due(-3, "get", 0, p(1));
        r.does("set", 0, p(1), 7);
        r.due(7, "get", 0, p(1));

        sentence("Promise 15: 'IndexOutOfBoundsException' - of get, named first");
        r.refusesEach(NO_HANDLES, 0, INDEX, "get", 0, p(1));
        r.refusesEach(NO_HANDLES, 0, INDEX, "get", 0, p(2));

        sentence("Promise 15: 'IllegalArgumentException: there is none at the path'");
        r.refusesEach(NO_NUMBERS, 1, ARGUMENT, "get", 0, 0);
        r.due(7, "get", 0, p(1));
    }

    private static void put() {
        sentence("Promise 13: 'IndexOutOfBoundsException' - of put, named first");
        Run r = withValues();
        r.refusesEach(NO_HANDLES, 0, INDEX, "put", 0, p(2), 0, 5);
        r.refusesEach(NO_HANDLES, 0, INDEX, "put", 0, p(1), 9, 99);

        sentence("Promise 13: 'IllegalArgumentException: there is no list at the path'");
        r.refusesEach(NO_LISTS, 1, ARGUMENT, "put", 0, 0, 0, 5);

        sentence("Promise 13: 'IllegalArgumentException: .. no such place in it'");
        r.refusesEach(of(-1, 3, 4, 5, 6, 7, MIN, MAX), 2, ARGUMENT, "put", 0, p(2), 0, 5);
        r.due(2, "put", 0, p(2), 0, 8);
        r.due(2, "put", 0, p(2), 1, 7);
        r.due(3, "put", 0, p(2), 2, 4);
        r.dueList(0, p(2), 8, 7, 4);
        r.refusesEach(of(1, 2, -1), 2, ARGUMENT, "put", 2, p(2), 0, 5);
        r.due(1, "put", 2, p(2), 0, 5);
        r.dueList(2, p(2), 5);

        sentence("Promise 13: 'IllegalArgumentException: .. i is 6'");
        r.due(4, "put", 0, p(2), 3, 4);
        r.due(5, "put", 0, p(2), 4, 5);
        r.due(6, "put", 0, p(2), 5, 6);
        r.refusesEach(of(6, 7, -1, MIN, MAX), 2, ARGUMENT, "put", 0, p(2), 0, 5);
        r.due(6, "put", 0, p(2), 5, 8);
        r.due(6, "put", 0, p(2), 0, 4);
        r.dueList(0, p(2), 4, 7, 4, 4, 5, 8);

        sentence("Promise 13: 'IllegalArgumentException: .. value is not in its bounds'");
        r.refusesEach(of(3, 9, MIN, MAX), 3, ARGUMENT, "put", 0, p(2), 0, 0);
        r.refusesEach(of(3, 9), 3, ARGUMENT, "put", 2, p(2), 1, 0);
        r.due(2, "put", 2, p(2), 1, 4);
        r.due(3, "put", 2, p(2), 2, 8);
        r.dueList(2, p(2), 5, 4, 8);
    }

    private static void cut() {
        sentence("Promise 14: 'IndexOutOfBoundsException' - of cut, named first");
        Run r = withValues();
        r.refusesEach(NO_HANDLES, 0, INDEX, "cut", 0, p(2), 0);
        r.refusesEach(NO_HANDLES, 0, INDEX, "cut", 0, p(1), 9);

        sentence("Promise 14: 'IllegalArgumentException: there is no list at the path'");
        r.refusesEach(NO_LISTS, 1, ARGUMENT, "cut", 0, 0, 0);

        sentence("Promise 14: 'IllegalArgumentException: .. it has not so many'");
        r.refusesEach(of(3, 4, 6, 7, -1, MIN, MAX), 2, ARGUMENT, "cut", 0, p(2), 0);
        r.does("cut", 0, p(2), 2);
        r.dueList(0, p(2), 5, 6);
        r.does("cut", 0, p(2), 1);
        r.dueList(0, p(2), 5);
        r.refuses(ARGUMENT, "cut", 0, p(2), 2);
        r.does("cut", 0, p(2), 0);
        r.dueList(0, p(2));
        r.does("cut", 0, p(2), 0);
        r.refuses(ARGUMENT, "cut", 0, p(2), 1);
        r.list(0, p(2), 4, 5, 6, 7, 8, 4);
        r.refuses(ARGUMENT, "cut", 0, p(2), 7);
        r.does("cut", 0, p(2), 6);
        r.dueList(0, p(2), 4, 5, 6, 7, 8, 4);
        r.does("cut", 0, p(2), 5);
        r.dueList(0, p(2), 4, 5, 6, 7, 8);
    }

    private static void sizeAndItem() {
        sentence("Promise 16: 'IndexOutOfBoundsException' - of size, named first");
        Run r = withValues();
        r.refusesEach(NO_HANDLES, 0, INDEX, "size", 0, p(2));
        r.refusesEach(NO_HANDLES, 0, INDEX, "size", 0, p(1));

        sentence("Promise 16: 'IllegalArgumentException: there is no list at the path'");
        r.refusesEach(NO_LISTS, 1, ARGUMENT, "size", 0, 0);
        r.due(2, "size", 0, p(2));
        r.due(0, "size", 2, p(2));

        sentence("Promise 17: 'IndexOutOfBoundsException' - of item, named first");
        r.refusesEach(NO_HANDLES, 0, INDEX, "item", 0, p(2), 0);
        r.refusesEach(NO_HANDLES, 0, INDEX, "item", 0, p(1), 9);

        sentence("Promise 17: 'IllegalArgumentException: there is no list at the path'");
        r.refusesEach(NO_LISTS, 1, ARGUMENT, "item", 0, 0, 0);

        sentence("Promise 17: 'IllegalArgumentException: .. no such place in it'");
        r.refusesEach(of(-1, 2, 5, 6, MIN, MAX), 2, ARGUMENT, "item", 0, p(2), 0);
        r.due(5, "item", 0, p(2), 0);
        r.due(6, "item", 0, p(2), 1);
        r.refusesEach(of(-1, 0), 2, ARGUMENT, "item", 2, p(2), 0);
        r.list(2, p(2), 4, 5, 6, 7, 8, 4);
        r.due(4, "item", 2, p(2), 5);
        r.refuses(ARGUMENT, "item", 2, p(2), 6);
        r.does("cut", 2, p(2), 1);
        r.due(4, "item", 2, p(2), 0);
        r.refuses(ARGUMENT, "item", 2, p(2), 1);
    }

    private static void ofHandlesAlone() {
        sentence("Promise 18: 'A record's version. IndexOutOfBoundsException.'");
        Run r = withValues();
        r.refusesEach(NO_HANDLES, 0, INDEX, "version", 0);
        r.due(0, "version", 2);
        r.step(0, NONE);
        r.does("translate", 2, 1);
        r.due(1, "version", 2);
        r.due(0, "version", 0);

        sentence("Promise 19: 'How many things are kept for a record. IndexOutOfBoundsException.'");
        r.refusesEach(NO_HANDLES, 0, INDEX, "kept", 0);
        r.due(0, "kept", 0);
        r.step(1, NONE, REMOVE, p(1), 0, 0, 0, REMOVE, p(2), 0, 0, 0, REMOVE, p(3), 0, 0, 0);
        r.does("translate", 0, 2);
        r.due(2, "kept", 0);
        r.does("translate", 2, 2);
        r.due(0, "kept", 2);

        sentence("Promise 20: 'IndexOutOfBoundsException' - of same, either one");
        r.refusesEach(NO_HANDLES, 0, INDEX, "same", 0, 0);
        r.refusesEach(NO_HANDLES, 1, INDEX, "same", 0, 0);
        r.refuses(INDEX, "same", 1, 1);
        r.refuses(INDEX, "same", 16, 16);
        r.due(1, "same", 0, 2);
        r.due(1, "same", 0, 0);
        Run full = withRecords(16);
        full.due(1, "same", 0, 15);
        full.does("set", 15, p(0), 1);
        full.due(0, "same", 15, 0);
    }

    private static void same() {
        sentence("Promise 20: 'the same version, and the same in each field' - but for one thing alone");
        Run r = new Run();
        r.does("field", p(0), NUMBER, MIN, MAX);
        r.does("field", p(1), GROUP, 0, 0);
        r.does("field", p(1, 2), LIST, 0, 9);
        for (int name = 3; name < 24; name++) {
            r.does("field", p(name), NUMBER, 0, 9);
        }
        r.does("record", 0);
        r.does("record", 0);
        for (int path : of(p(0), p(3), p(23))) {
            r.does("set", 0, path, 1);
            r.due(0, "same", 0, 1);
            r.does("set", 1, path, 1);
            r.due(1, "same", 0, 1);
        }
        r.list(0, p(1, 2), 0);
        r.due(0, "same", 0, 1);
        r.list(1, p(1, 2), 0);
        r.due(1, "same", 0, 1);
        r.list(0, p(1, 2), 0, 1, 2, 3, 4, 5);
        r.list(1, p(1, 2), 0, 1, 2, 3, 4, 6);
        r.due(0, "same", 0, 1);
        r.does("cut", 0, p(1, 2), 5);
        r.due(0, "same", 0, 1);
        r.does("cut", 1, p(1, 2), 5);
        r.due(1, "same", 0, 1);
        r.step(0, NONE);
        r.does("translate", 0, 1);
        r.due(0, "same", 0, 1);
        r.does("translate", 1, 1);
        r.due(1, "same", 0, 1);

        sentence("Promise 20: '(what is kept does not count)'");
        Run k = withNumber(0, 9);
        k.step(0, NONE, REMOVE, p(0), 0, 0, 0);
        k.does("record", 0);
        k.does("record", 1);
        k.does("set", 0, p(0), 5);
        k.does("translate", 0, 1);
        k.due(1, "kept", 0);
        k.due(0, "kept", 1);
        k.due(1, "same", 0, 1);
    }

    private static void translate() {
        sentence("Promise 21: 'IndexOutOfBoundsException' - of translate, the handle or the version");
        Run r = withValues();
        r.step(0, NONE, SPLIT, p(1), 2, 9, 0);
        r.refusesEach(NO_HANDLES, 0, INDEX, "translate", 0, 0);
        r.refusesEach(NO_HANDLES, 0, INDEX, "translate", 0, 2);
        r.refusesEach(of(2, -1, 8, MIN, MAX), 1, INDEX, "translate", 0, 0);
        r.due(0, "translate", 0, 0);
        r.due(1, "translate", 0, 1);
        r.due(1, "get", 0, p(1));
        r.due(0, "get", 0, p(9));

        sentence("Promise 21: 'ArithmeticException: it cannot be taken (it is as before then)'");
        r.does("set", 0, p(1), 3);
        r.does("set", 0, p(9), 1);
        r.due(1, "translate", 0, 0);
        r.due(7, "get", 0, p(1));
        r.does("translate", 0, 1);
        r.does("set", 0, p(1), -2);
        r.does("set", 0, p(9), 0);
        r.refuses(ARITHMETIC, "translate", 0, 0);
        r.due(1, "version", 0);
        r.due(-2, "get", 0, p(1));
        r.due(0, "translate", 0, 1);
        r.refuses(INDEX, "translate", 0, 2);
        r.does("set", 0, p(9), 1);
        r.due(1, "translate", 0, 0);
        r.due(-3, "get", 0, p(1));
    }

    /** Four steps back, the last of which cannot; those before it would keep and bring back things. */
    private static void translateAsBefore() {
        sentence("Promise 21: '(it is as before then)' - the last of several steps cannot");
        Run r = withNumber(0, 5);
        r.step(0, NONE, SPLIT, p(0), 4, 1, 0);
        r.step(1, NONE, ADD, p(2), LIST, 0, 9, SCALE, p(1), 1, 2, 0);
        r.step(2, NONE, WRAP, p(0), 0, 0, 0, REMOVE, p(1), 0, 0, 0);
        r.step(3, NONE, SORT, p(2), 0, 0, 0);
        r.does("record", 1);
        r.does("set", 0, p(0), 1);
        r.does("set", 0, p(1), 3);
        r.due(3, "translate", 0, 4);
        r.due(2, "kept", 0);
        r.list(0, p(2), 9, 1);
        r.list(0, p(0), 1, 0, 1);
        r.refuses(ARITHMETIC, "translate", 0, 0);
        r.due(4, "version", 0);
        r.due(2, "kept", 0);
        r.dueList(0, p(2), 9, 1);
        r.dueList(0, p(0), 1, 0, 1);
        r.due(3, "translate", 0, 1);
        r.due(3, "get", 0, p(1));
        r.refuses(ARITHMETIC, "translate", 0, 0);
        r.does("set", 0, p(1), 1);
        r.due(1, "translate", 0, 0);
        r.due(5, "get", 0, p(0));
    }

    private static void route() {
        sentence("Promise 22: 'The k-th version on the route .., from 0 (the first one itself); NONE when there is none'");
        Run r = withVersions(3);
        r.due(1, "route", 1, 2, 0);
        r.due(0, "route", 1, 2, 1);
        r.due(2, "route", 1, 2, 2);
        for (int k : of(-1, 3, 4, 7, 8, MIN, MAX)) {
            r.due(NONE, "route", 1, 2, k);
        }
        r.due(2, "route", 2, 2, 0);
        for (int k : of(-1, 1, MIN, MAX)) {
            r.due(NONE, "route", 2, 2, k);
        }
        sentence("Promise 22: 'IndexOutOfBoundsException' - of route, either version");
        r.refusesEach(of(3, -1, 8, MIN, MAX), 0, INDEX, "route", 0, 0, 0);
        r.refusesEach(of(3, -1, 8, MIN, MAX), 1, INDEX, "route", 0, 0, 0);
        r.refuses(INDEX, "route", 3, 3, 0);
        r.refuses(INDEX, "route", 0, 3, -1);
        r.due(2, "route", 2, 0, 0);
    }

    private static void clash() {
        sentence("Promise 23: 'IndexOutOfBoundsException' - of clash");
        Run r = withNumber(0, 9);
        r.refuses(INDEX, "clash", 0);
        r.step(0, NONE);
        r.refusesEach(of(1, -1, 16, MIN, MAX), 0, INDEX, "clash", 0);

        r.does("begin", 0);
        r.refuses(INDEX, "clash", 1);
        r.due(1, "leave");

        sentence("Promise 23: 'NONE when there is no such route'");
        r.due(NONE, "clash", 0);
        r.step(1, NONE);
        r.due(NONE, "clash", 0);
        r.due(NONE, "clash", 1);
        r.step(2, 0, MAP, p(0), 1, 2, 0);
        r.due(0, "clash", 0);
        r.due(0, "clash", 1);
        r.due(1, "clash", 2);
        r.step(2, NONE);
        r.due(NONE, "clash", 3);

        sentence("Promise 23: 'if the step were not there' - the first of two between the same versions");
        Run two = withNumber(0, 9);
        two.step(0, NONE, MAP, p(0), 1, 2, 0);
        two.due(NONE, "clash", 0);
        two.step(0, 1);
        two.due(1, "clash", 0);
        two.due(1, "clash", 1);
        two.step(0, 1);
        two.due(1, "clash", 0);
        two.due(1, "clash", 2);
        two.step(0, 1, MAP, p(0), 1, 2, 0);
        two.due(0, "clash", 3);
    }

    /** A way of seven steps with eight SPLITs and REMOVEs each: as many terms as there can be. */
    private static void mostTerms() {
        sentence("Promise 23: clash over the longest way, of most primitives, all of which make terms");
        Run r = withNumber(MIN, MAX);
        for (int v = 1; v < 8; v++) {
            r.does("begin", v - 1);
            for (int i = 0; i < 4; i++) {
                r.does("primitive", SPLIT, p(0), 2, 1, 0);
                r.does("primitive", REMOVE, p(1), 0, 0, 0);
            }
            r.due(v, "end", NONE);
        }
        r.step(0, 7, REMOVE, p(0), 0, 0, 0, ADD, p(0), NUMBER, -8, 7, MAP, p(0), 0, 1, 0);
        for (int s = 0; s < 8; s++) {
            r.due(1, "clash", s);
        }
    }

    /** Twenty numbers; each step makes terms of its own, so that a call has more than 90 of them. */
    private static void mostTermsAtOnce() {
        sentence("Promise 23: clash of many fields over the longest way, more than once");
        Run r = withNumbers(20);
        for (int v = 1; v < 8; v++) {
            r.does("begin", v - 1);
            for (int i = 0; i < 8; i++) {
                if (v == 1 && i < 4) {
                    r.does("primitive", SPLIT, p(i), 2, 50 + i, 0);
                } else {
                    r.does("primitive", MAP, p(i), 2, v % 2, 0);
                }
            }
            r.due(v, "end", NONE);
        }
        r.does("begin", 0);
        for (int i = 0; i < 4; i++) {
            r.does("primitive", MAP, p(i), 1, 2, 0);
            r.does("primitive", SPLIT, p(i), 2, 50 + i, 0);
        }
        r.due(7, "end", 7);
        for (int i = 0; i < 16; i++) {
            r.due(1, "clash", i % 8);
        }
    }

    private static void lastCall() {
        sentence("'An object is used for at most 512 calls' - the last of them");
        Run r = withNumber(0, 9);
        r.does("record", 0);
        while (r.calls.size() < MAX_CALLS - 12) {
            r.does("begin", 0);
            for (int i = 1; i <= 8; i++) {
                r.due(i, "primitive", SPLIT, p(0), 2, i, 0);
            }
            r.due(1, "leave");
        }
        r.step(0, NONE, MAP, p(0), 0, 9, 0);
        while (r.calls.size() < MAX_CALLS - 2) {
            r.due(0, "get", 0, p(0));
        }
        r.due(1, "translate", 0, 1);
        r.due(9, "get", 0, p(0));
        if (r.calls.size() != MAX_CALLS) {
            fault("these were " + r.calls.size() + " calls", r);
        }
    }

    public static void main(String[] args) {
        newObject();
        fieldBehindABeginning();
        fieldRefused();
        fieldOrder();
        beginRefused();
        primitiveRefused();
        primitiveKinds();
        endRefused();
        endOtherSchema();
        endOrder();
        leave();
        about();
        count();
        record();
        copy();
        drop();
        setAndGet();
        put();
        cut();
        sizeAndItem();
        ofHandlesAlone();
        same();
        translate();
        translateAsBefore();
        route();
        clash();
        mostTerms();
        mostTermsAtOnce();
        lastCall();
        finish();
    }
}
