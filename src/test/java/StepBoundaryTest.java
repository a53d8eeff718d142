import java.util.Arrays;

/** The boundaries of versions, steps and primitives, under 'Terms'. */
public final class StepBoundaryTest extends Boundaries {

    private static void eightVersions() {
        sentence("Terms: 'VERSIONS 0, 1, .. (at most 8)'");
        Run r = withVersions(7);
        r.refuses(INDEX, "begin", 7);
        r.does("begin", 0);
        r.due(7, "end", NONE);
        r.due(8, "count", 0);
        r.does("begin", 0);
        r.refuses(UNSUPPORTED, "end", NONE);
        r.due(1, "leave");
        r.refuses(INDEX, "begin", 8);
        r.does("begin", 7);
        r.due(0, "end", 0);
        r.due(0, "record", 7);
        r.due(1, "about", 7, 0, 3);
    }

    private static void sixteenSteps() {
        sentence("Terms: 'STEPS 0, 1, .. (at most 16)'");
        Run r = withSteps(15);
        r.due(15, "count", 1);
        r.does("begin", 0);
        r.due(1, "end", 1);
        r.due(16, "count", 1);
        r.does("begin", 0);
        r.refuses(UNSUPPORTED, "end", 1);
        r.refuses(UNSUPPORTED, "end", NONE);
        r.due(16, "count", 1);
        r.due(0, "clash", 15);
        r.refuses(INDEX, "clash", 16);
    }

    private static void primitivesOfAStep() {
        sentence("Terms: 'by 0 to 8 PRIMITIVES' - 0");
        Run none = withNumber(0, 9);
        none.does("begin", 0);
        none.due(0, "count", 3);
        none.due(1, "end", NONE);
        none.does("record", 0);
        none.does("set", 0, p(0), 5);
        none.dueMove(0, 1, 5, 0);
        none.dueMove(0, 0, 5, 0);

        sentence("Terms: 'by 0 to 8 PRIMITIVES' - 8");
        Run r = withNumber(0, 9);
        r.does("begin", 0);
        for (int i = 0; i < 8; i++) {
            r.due(i + 1, "primitive", MAP, p(0), i, i + 1, 0);
        }
        r.refuses(STATE, "primitive", MAP, p(0), 8, 9, 0);
        r.due(8, "count", 3);
        r.due(1, "end", NONE);
        r.does("record", 0);
        r.dueMove(0, 1, 8, 8);
        r.dueMove(0, 0, 0, 0);
    }

    private static void toAnotherVersion() {
        sentence("Terms: 'lead from one version to another one'");
        Run r = withVersions(2);
        r.does("begin", 0);
        r.refuses(ARGUMENT, "end", 0);
        r.due(1, "end", 1);
        r.does("begin", 1);
        r.refuses(ARGUMENT, "end", 1);
        r.due(0, "end", 0);
    }

    private static void onWhatThoseBeforeMade() {
        sentence("Terms: 'each of which works on the schema that those before it made'");
        Run r = withNumber(0, 9);
        r.does("begin", 0);
        r.refuses(ARGUMENT, "primitive", ADD, p(0), NUMBER, 0, 1);
        r.due(1, "primitive", RENAME, p(0), 5, 0, 0);
        r.refuses(ARGUMENT, "primitive", WRAP, p(0), 0, 0, 0);
        r.due(2, "primitive", ADD, p(0), GROUP, 0, 0);
        r.due(3, "primitive", ADD, p(0, 1), NUMBER, 0, 4);
        r.due(4, "primitive", SCALE, p(0, 1), 2, 1, 0);
        r.refuses(ARGUMENT, "primitive", MAP, p(0, 1), 0, 9, 0);
        r.due(5, "primitive", MAP, p(0, 1), 0, 8, 0);
        r.due(6, "primitive", WRAP, p(0, 1), 0, 0, 0);
        r.refuses(ARGUMENT, "primitive", WRAP, p(0, 1), 0, 0, 0);
        r.due(7, "primitive", SORT, p(0, 1), 0, 0, 0);
        r.due(8, "primitive", REMOVE, p(0, 1), 0, 0, 0);
        r.due(1, "end", NONE);
        r.due(2, "about", 1, 0, 3);
        r.due(1, "about", 0, 0, 3);
    }

    private static void numbersNotUsed() {
        sentence("Terms: '(numbers that a kind does not use count for nothing)'");
        for (int odd : of(MIN, -1, 0, 1001, MAX)) {
            Run r = withEachSort();
            r.does("begin", 0);
            r.due(1, "primitive", RENAME, p(0), 9, odd, odd);
            r.due(2, "primitive", LIFT, p(2, 3), odd, odd, odd);
            r.due(3, "primitive", REMOVE, p(2), odd, odd, odd);
            r.due(4, "primitive", SPLIT, p(9), 2, 8, odd);
            r.due(5, "primitive", SCALE, p(9), 3, 2, odd);
            r.due(6, "primitive", MAP, p(8), 0, 1, odd);
            r.due(7, "primitive", WRAP, p(8), odd, odd, odd);
            r.due(8, "primitive", SORT, p(1), odd, odd, odd);
            r.due(1, "end", NONE);
            r.dueField(1, p(9), NUMBER, -5, 6);
            r.dueField(1, p(8), LIST, 0, 1);
        }
        sentence("Terms: '(numbers that a kind does not use ..)' - ADD of a record type, and field");
        Run r = new Run();
        r.due(1, "field", p(0), GROUP, MAX, MIN);
        r.dueField(0, p(0), GROUP, 0, 0);
        r.step(0, NONE, ADD, p(1), GROUP, 9, 1);
        r.dueField(1, p(1), GROUP, 0, 0);
        r.does("begin", 0);
        r.does("primitive", ADD, p(1), GROUP, MIN, MAX);
        r.due(1, "end", 1);
    }

    private static void rename() {
        sentence("Terms: 'RENAME path to the name a, which its record has not'");
        Run r = withEachSort();
        r.does("begin", 0);
        r.refusesEach(of(-1, 100, 127, 128, 255, MIN, MAX), 2, ARGUMENT, "primitive", RENAME, p(0), 0, 0, 0);
        r.refuses(ARGUMENT, "primitive", RENAME, p(0), 1, 0, 0);
        r.refuses(ARGUMENT, "primitive", RENAME, p(0), 0, 0, 0);
        r.refuses(ARGUMENT, "primitive", RENAME, p(2, 3), 3, 0, 0);
        r.refuses(ARGUMENT, "primitive", RENAME, p(9), 8, 0, 0);
        r.due(1, "primitive", RENAME, p(0), 99, 0, 0);
        r.due(2, "primitive", RENAME, p(99), 0, 0, 0);
        r.due(3, "primitive", RENAME, p(2, 3), 0, 0, 0);
        r.due(4, "primitive", RENAME, p(2, 0, 4), 2, 0, 0);
        r.due(5, "primitive", RENAME, p(2), 3, 0, 0);
        r.due(6, "primitive", ADD, p(3, 5), NUMBER, 0, 1);
        r.refuses(ARGUMENT, "primitive", RENAME, p(3, 5), 0, 0, 0);
        r.due(1, "end", NONE);
        r.dueField(1, p(3, 0, 2), NUMBER, 1, 2);
    }

    private static void add() {
        sentence("Terms: 'ADD a field at a path, in a record that is there and has none of that name'");
        Run r = withEachSort();
        r.does("begin", 0);
        r.refuses(ARGUMENT, "primitive", ADD, p(0), NUMBER, 0, 9);
        r.refuses(ARGUMENT, "primitive", ADD, p(2, 3), NUMBER, 0, 9);
        r.refuses(ARGUMENT, "primitive", ADD, p(0, 1), NUMBER, 0, 9);
        r.refuses(ARGUMENT, "primitive", ADD, p(1, 1), NUMBER, 0, 9);
        r.refuses(ARGUMENT, "primitive", ADD, p(9, 1), NUMBER, 0, 9);
        r.refuses(ARGUMENT, "primitive", ADD, p(2, 9, 1), NUMBER, 0, 9);
        r.refuses(ARGUMENT, "primitive", ADD, p(2, 3, 4, 1), NUMBER, 0, 9);
        r.due(1, "primitive", ADD, p(9), GROUP, 0, 9);
        r.due(2, "primitive", ADD, p(9, 1), NUMBER, 0, 9);
        r.due(3, "primitive", ADD, p(2, 3, 0), LIST, 7, 9);
        r.due(4, "primitive", ADD, p(5, 5), GROUP, 0, 0);
        r.due(5, "primitive", ADD, p(5, 5, 5), GROUP, 0, 0);
        r.due(6, "primitive", ADD, p(5, 5, 5, 5), NUMBER, 3, 3);
        r.due(1, "end", NONE);
        r.dueField(1, p(2, 3, 0), LIST, 7, 9);
        r.dueField(1, p(5, 5, 5, 5), NUMBER, 3, 3);
        r.due(12, "about", 1, 0, 3);
    }

    private static void remove() {
        sentence("Terms: 'REMOVE the field at a path: not a record with fields'");
        Run r = withEachSort();
        r.does("begin", 0);
        r.refuses(ARGUMENT, "primitive", REMOVE, p(2), 0, 0, 0);
        r.refuses(ARGUMENT, "primitive", REMOVE, p(2, 3), 0, 0, 0);
        r.refuses(ARGUMENT, "primitive", REMOVE, p(9), 0, 0, 0);
        r.due(1, "primitive", REMOVE, p(5), 0, 0, 0);
        r.due(2, "primitive", REMOVE, p(2, 3, 4), 0, 0, 0);
        r.refuses(ARGUMENT, "primitive", REMOVE, p(2), 0, 0, 0);
        r.due(3, "primitive", REMOVE, p(2, 3), 0, 0, 0);
        r.due(4, "primitive", REMOVE, p(2), 0, 0, 0);
        r.due(5, "primitive", REMOVE, p(0), 0, 0, 0);
        r.due(6, "primitive", REMOVE, p(1), 0, 0, 0);
        r.refuses(ARGUMENT, "primitive", REMOVE, p(1), 0, 0, 0);
        r.due(1, "end", NONE);
        r.due(0, "about", 1, 0, 3);
    }

    private static void wrapANumber() {
        sentence("Terms: 'WRAP a number into a list with the same bounds'");
        Run r = withEachSort();
        r.does("field", p(6), NUMBER, MIN, MAX);
        r.does("begin", 0);
        r.refuses(ARGUMENT, "primitive", WRAP, p(1), 0, 0, 0);
        r.refuses(ARGUMENT, "primitive", WRAP, p(2), 0, 0, 0);
        r.refuses(ARGUMENT, "primitive", WRAP, p(5), 0, 0, 0);
        r.refuses(ARGUMENT, "primitive", WRAP, p(9), 0, 0, 0);
        r.due(1, "primitive", WRAP, p(0), 0, 0, 0);
        r.due(2, "primitive", WRAP, p(2, 3, 4), 0, 0, 0);
        r.due(3, "primitive", WRAP, p(6), 0, 0, 0);
        r.refuses(ARGUMENT, "primitive", WRAP, p(0), 0, 0, 0);
        r.due(1, "end", NONE);
        r.dueField(1, p(0), LIST, -5, 9);
        r.dueField(1, p(2, 3, 4), LIST, 1, 2);
        r.dueField(1, p(6), LIST, MIN, MAX);
    }

    private static void lift() {
        sentence("Terms: 'LIFT a field out of the record that it is in' - not one of the whole record");
        Run top = withEachSort();
        top.does("begin", 0);
        top.refuses(ARGUMENT, "primitive", LIFT, p(0), 0, 0, 0);
        top.refuses(ARGUMENT, "primitive", LIFT, p(2), 0, 0, 0);
        top.refuses(ARGUMENT, "primitive", LIFT, p(2, 9), 0, 0, 0);
        top.due(1, "primitive", LIFT, p(2, 3), 0, 0, 0);
        top.refuses(ARGUMENT, "primitive", LIFT, p(3), 0, 0, 0);

        sentence("Terms: LIFT '.. to those beside that record, of which none has its name, nor that record itself'");
        Run r = new Run();
        r.does("field", p(2), GROUP, 0, 0);
        r.does("field", p(2, 3), GROUP, 0, 0);
        r.does("field", p(2, 4), NUMBER, 0, 1);
        r.does("field", p(2, 3, 3), NUMBER, 0, 2);
        r.does("field", p(2, 3, 4), NUMBER, 0, 3);
        r.does("field", p(2, 3, 2), NUMBER, 0, 4);
        r.does("field", p(3), NUMBER, 0, 5);
        r.does("field", p(2, 2), NUMBER, 0, 6);
        r.does("begin", 0);
        r.refuses(ARGUMENT, "primitive", LIFT, p(2, 3, 3), 0, 0, 0);
        r.refuses(ARGUMENT, "primitive", LIFT, p(2, 3, 4), 0, 0, 0);
        r.refuses(ARGUMENT, "primitive", LIFT, p(2, 3), 0, 0, 0);
        r.refuses(ARGUMENT, "primitive", LIFT, p(2, 2), 0, 0, 0);
        r.due(1, "primitive", LIFT, p(2, 4), 0, 0, 0);
        r.due(2, "primitive", LIFT, p(2, 3, 4), 0, 0, 0);
        r.due(3, "primitive", RENAME, p(2), 6, 0, 0);
        r.due(4, "primitive", LIFT, p(6, 2), 0, 0, 0);
        r.due(5, "primitive", LIFT, p(6, 3, 2), 0, 0, 0);
        r.refuses(ARGUMENT, "primitive", LIFT, p(6, 2), 0, 0, 0);
        r.due(1, "end", NONE);
        r.dueField(1, p(4), NUMBER, 0, 1);
        r.dueField(1, p(6, 4), NUMBER, 0, 3);
        r.dueField(1, p(2), NUMBER, 0, 6);
        r.dueField(1, p(6, 2), NUMBER, 0, 4);
    }

    private static void liftAlong() {
        sentence("Terms: LIFT '.. it takes all that is in it along' - from four names deep, and none at all");
        Run r = new Run();
        r.does("field", p(1), GROUP, 0, 0);
        r.does("field", p(1, 2), GROUP, 0, 0);
        r.does("field", p(1, 2, 3), GROUP, 0, 0);
        r.does("field", p(1, 2, 3, 99), NUMBER, 0, 9);
        r.does("field", p(1, 2, 3, 0), LIST, 0, 9);
        r.does("field", p(1, 4), GROUP, 0, 0);
        r.does("record", 0);
        r.does("set", 0, p(1, 2, 3, 99), 7);
        r.does("put", 0, p(1, 2, 3, 0), 0, 8);
        r.step(0, NONE, LIFT, p(1, 2), 0, 0, 0, LIFT, p(1, 4), 0, 0, 0);
        r.due(0, "about", 1, p(1), 3);
        r.due(3, "about", 1, p(2), 3);
        r.due(0, "about", 1, p(4), 3);
        r.due(NONE, "about", 1, p(1, 2), 0);
        r.due(1, "translate", 0, 1);
        r.due(7, "get", 0, p(2, 3, 99));
        r.dueList(0, p(2, 3, 0), 8);
        r.step(1, NONE, LIFT, p(2, 3, 99), 0, 0, 0, LIFT, p(2, 99), 0, 0, 0);
        r.due(1, "translate", 0, 2);
        r.due(7, "get", 0, p(99));
        r.due(2, "translate", 0, 0);
        r.due(7, "get", 0, p(1, 2, 3, 99));
    }

    private static void splitBase() {
        sentence("Terms: 'SPLIT a number by the base a, 2 .. 1000'");
        Run r = withEachSort();
        r.does("begin", 0);
        r.refusesEach(of(1, 0, -1, -2, 1001, MIN, MAX), 2, ARGUMENT, "primitive", SPLIT, p(0), 0, 9, 0);
        r.refuses(ARGUMENT, "primitive", SPLIT, p(1), 2, 9, 0);
        r.refuses(ARGUMENT, "primitive", SPLIT, p(5), 2, 9, 0);
        r.refuses(ARGUMENT, "primitive", SPLIT, p(9), 2, 8, 0);
        r.due(1, "primitive", SPLIT, p(0), 2, 9, 0);
        r.due(2, "primitive", SPLIT, p(9), 1000, 8, 0);
        r.due(1, "end", NONE);

        sentence("Terms: SPLIT 'becomes the quotient, rounded down, with bounds likewise'");
        int[][] bounds = {{-7, 7, 2, -4, 3}, {-8, 8, 2, -4, 4}, {-9, 9, 2, -5, 4}, {-1, -1, 1000, -1, -1},
            {999, 1000, 1000, 0, 1}, {-1000, -1001, 1000, -1, -2}, {MIN, MAX, 2, -1073741824, 1073741823},
            {MIN, MAX, 1000, -2147484, 2147483}};
        for (int[] b : bounds) {
            Run s = withNumber(Math.min(b[0], b[1]), Math.max(b[0], b[1]));
            s.step(0, NONE, SPLIT, p(0), b[2], 1, 0);
            s.dueField(1, p(0), NUMBER, Math.min(b[3], b[4]), Math.max(b[3], b[4]));
            s.does("record", 0);
            s.does("set", 0, p(0), b[0]);
            s.dueMove(0, 1, b[3], 0);
            s.dueMove(0, 0, b[0], 0);
            s.does("set", 0, p(0), b[1]);
            s.dueMove(0, 1, b[4], 0);
            s.dueMove(0, 0, b[1], 0);
        }
    }

    private static void splitRest() {
        sentence("Terms: SPLIT 'the rest, from 0 to a - 1'");
        Run r = withNumber(-1000, 1000);
        r.step(0, NONE, SPLIT, p(0), 1000, 1, 0);
        r.step(0, NONE, SPLIT, p(0), 2, 1, 0);
        r.dueField(1, p(1), NUMBER, 0, 999);
        r.dueField(2, p(1), NUMBER, 0, 1);
        r.does("record", 0);
        int[][] rests = {{-1000, 0}, {-999, 1}, {-1, 999}, {0, 0}, {1, 1}, {999, 999}, {1000, 0}};
        for (int[] x : rests) {
            r.does("set", 0, p(0), x[0]);
            r.does("translate", 0, 1);
            r.due(x[1], "get", 0, p(1));
            r.dueMove(0, 0, x[0], 0);
        }

        sentence("Terms: SPLIT '.. a number with the name b beside it, which is not there'");
        Run n = withEachSort();
        n.does("begin", 0);
        n.refusesEach(of(-1, 100, 127, 128, MIN, MAX, 0, 1, 2), 3, ARGUMENT, "primitive", SPLIT, p(0), 2, 0, 0);
        n.refuses(ARGUMENT, "primitive", SPLIT, p(2, 3, 4), 2, 4, 0);
        n.due(1, "primitive", SPLIT, p(2, 3, 4), 2, 0, 0);
        n.due(2, "primitive", SPLIT, p(0), 2, 99, 0);
        n.refuses(ARGUMENT, "primitive", SPLIT, p(0), 2, 99, 0);
        n.due(3, "primitive", RENAME, p(0), 50, 0, 0);
        n.due(4, "primitive", SPLIT, p(50), 2, 0, 0);
        n.due(1, "end", NONE);
        n.dueField(1, p(2, 3, 0), NUMBER, 0, 1);
    }

    private static void scaleFactors() {
        sentence("Terms: 'SCALE a number by a / b (each 1 .. 1000)'");
        Run r = withEachSort();
        r.does("begin", 0);
        r.refusesEach(of(0, -1, 1001, MIN, MAX), 2, ARGUMENT, "primitive", SCALE, p(0), 0, 1, 0);
        r.refusesEach(of(0, -1, 1001, MIN, MAX), 3, ARGUMENT, "primitive", SCALE, p(0), 1, 0, 0);
        r.refuses(ARGUMENT, "primitive", SCALE, p(0), -1, -1, 0);
        r.refuses(ARGUMENT, "primitive", SCALE, p(1), 1, 1, 0);
        r.refuses(ARGUMENT, "primitive", SCALE, p(5), 1, 1, 0);
        r.refuses(ARGUMENT, "primitive", SCALE, p(9), 1, 1, 0);
        r.due(1, "primitive", SCALE, p(0), 1, 1, 0);
        r.due(2, "primitive", SCALE, p(0), 1000, 1000, 0);
        r.due(3, "primitive", SCALE, p(0), 1000, 1, 0);
        r.due(4, "primitive", SCALE, p(2, 3, 4), 1, 1000, 0);
        r.due(1, "end", NONE);
        r.dueField(1, p(0), NUMBER, -5000, 9000);
        r.dueField(1, p(2, 3, 4), NUMBER, 0, 0);
    }

    private static void scaleBounds() {
        sentence("Terms: SCALE '.. its bounds likewise; these must be ints' - high");
        int[][] high = {{1073741823, 2, 1, 2147483646}, {1431655765, 3, 2, MAX}, {MAX, 1000, 1000, MAX},
            {2147483, 1000, 1, 2147483000}, {MAX, 999, 1000, 2145336163}};
        for (int[] b : high) {
            Run r = withNumber(0, b[0]);
            r.step(0, NONE, SCALE, p(0), b[1], b[2], 0);
            r.dueField(1, p(0), NUMBER, 0, b[3]);
        }
        for (int[] b : new int[][] {{1073741824, 2, 1}, {1431655766, 3, 2}, {MAX, 1000, 999}, {2147484, 1000, 1},
            {MAX, 1000, 1}}) {
            Run r = withNumber(-9, b[0]);
            r.does("begin", 0);
            r.refuses(ARGUMENT, "primitive", SCALE, p(0), b[1], b[2], 0);
        }
        sentence("Terms: SCALE '.. its bounds likewise; these must be ints' - low");
        int[][] low = {{-1073741824, 2, 1, MIN}, {-1431655765, 3, 2, MIN}, {MIN, 1000, 1000, MIN},
            {-2147483, 1000, 1, -2147483000}, {MIN, 1, 1000, -2147484}};
        for (int[] b : low) {
            Run r = withNumber(b[0], 0);
            r.step(0, NONE, SCALE, p(0), b[1], b[2], 0);
            r.dueField(1, p(0), NUMBER, b[3], 0);
        }
        for (int[] b : new int[][] {{-1073741825, 2, 1}, {-1431655766, 3, 2}, {MIN, 1000, 999}, {-2147484, 1000, 1},
            {MIN, 1000, 1}}) {
            Run r = withNumber(b[0], 9);
            r.does("begin", 0);
            r.refuses(ARGUMENT, "primitive", SCALE, p(0), b[1], b[2], 0);
        }
        sentence("Terms: SCALE '.. the quotient of a times it and b, rounded down'");
        int[][] values = {{-4, 2, 3, -3}, {-3, 2, 3, -2}, {-1, 1, 1000, -1}, {0, 1, 1000, 0}, {999, 1, 1000, 0},
            {1000, 1, 1000, 1}, {-1000, 1, 1000, -1}, {-1001, 1, 1000, -2}, {2147483, 999, 1000, 2145335}};
        for (int[] v : values) {
            Run r = withNumber(-2147483, 2147483);
            r.step(0, NONE, SCALE, p(0), v[1], v[2], 0);
            r.does("record", 0);
            r.does("set", 0, p(0), v[0]);
            r.does("translate", 0, 1);
            r.due(v[3], "get", 0, p(0));
        }
    }

    private static void mapInBounds() {
        sentence("Terms: 'MAP a number a to b: both in its bounds, different'");
        Run r = withEachSort();
        r.does("field", p(6), NUMBER, MIN, MAX);
        r.does("begin", 0);
        r.refusesEach(of(-6, 10, MIN, MAX), 2, ARGUMENT, "primitive", MAP, p(0), 0, 1, 0);
        r.refusesEach(of(-6, 10, MIN, MAX), 3, ARGUMENT, "primitive", MAP, p(0), 1, 0, 0);
        r.refuses(ARGUMENT, "primitive", MAP, p(0), 9, 9, 0);
        r.refuses(ARGUMENT, "primitive", MAP, p(0), 0, 0, 0);
        r.refuses(ARGUMENT, "primitive", MAP, p(1), 0, 1, 0);
        r.refuses(ARGUMENT, "primitive", MAP, p(5), 0, 1, 0);
        r.refuses(ARGUMENT, "primitive", MAP, p(9), 0, 1, 0);
        r.due(1, "primitive", MAP, p(0), -5, 9, 0);
        r.due(2, "primitive", MAP, p(0), 9, -5, 0);
        r.due(3, "primitive", MAP, p(6), MIN, MAX, 0);
        r.due(4, "primitive", MAP, p(2, 3, 4), 1, 2, 0);
        r.due(1, "end", NONE);
        r.dueField(1, p(0), NUMBER, -5, 9);
    }

    private static void sortAList() {
        sentence("Terms: 'SORT a list, the least first'");
        Run r = withEachSort();
        r.does("begin", 0);
        r.refuses(ARGUMENT, "primitive", SORT, p(0), 0, 0, 0);
        r.refuses(ARGUMENT, "primitive", SORT, p(2), 0, 0, 0);
        r.refuses(ARGUMENT, "primitive", SORT, p(5), 0, 0, 0);
        r.refuses(ARGUMENT, "primitive", SORT, p(9), 0, 0, 0);
        r.due(1, "primitive", SORT, p(1), 0, 0, 0);
        r.due(1, "end", NONE);
        int[][][] lists = {{{}, {}}, {{4}, {4}}, {{2, 1}, {1, 2}}, {{5, 5}, {5, 5}},
            {{9, -5, 9, 0, -5, 3}, {-5, -5, 0, 3, 9, 9}}, {{6, 5, 4, 3, 2, 1}, {1, 2, 3, 4, 5, 6}}};
        for (int[][] l : lists) {
            Run s = withList(-9, 9);
            s.step(0, NONE, SORT, p(0), 0, 0, 0);
            s.does("record", 0);
            s.list(0, p(0), l[0]);
            s.does("translate", 0, 1);
            s.dueList(0, p(0), l[1]);
            s.due(Arrays.equals(l[0], l[1]) ? 0 : 1, "kept", 0);
            s.does("translate", 0, 0);
            s.dueList(0, p(0), l[0]);
        }
        Run wide = withList(MIN, MAX);
        wide.step(0, NONE, SORT, p(0), 0, 0, 0);
        wide.does("record", 0);
        wide.list(0, p(0), MAX, 0, MIN, -1, MAX, MIN);
        wide.does("translate", 0, 1);
        wide.dueList(0, p(0), MIN, MIN, -1, 0, MAX, MAX);
    }

    /** 24 fields, and eight primitives that bring a field each while others go, over two steps. */
    private static void fullSchemas() {
        sentence("Terms: 24 fields and 8 primitives at once, with records and terms");
        Run r = withNumbers(24);
        r.does("begin", 0);
        for (int i = 0; i < 20; i++) {
            r.refuses(ARGUMENT, "primitive", ADD, p(50 + i), NUMBER, 0, 9);
        }
        for (int i = 0; i < 4; i++) {
            r.due(2 * i + 1, "primitive", REMOVE, p(i), 0, 0, 0);
            r.due(2 * i + 2, "primitive", ADD, p(50 + i), NUMBER, i, 9);
        }
        r.due(1, "end", NONE);
        r.does("begin", 0);
        for (int i = 0; i < 4; i++) {
            r.due(2 * i + 1, "primitive", REMOVE, p(3 - i), 0, 0, 0);
            r.due(2 * i + 2, "primitive", ADD, p(53 - i), NUMBER, 3 - i, 9);
        }
        r.due(1, "end", 1);
        r.due(0, "clash", 1);
        r.does("record", 0);
        r.does("set", 0, p(0), 8);
        r.does("set", 0, p(3), 7);
        r.does("set", 0, p(23), 6);
        r.due(1, "translate", 0, 1);
        r.due(2, "kept", 0);
        r.due(3, "get", 0, p(53));
        r.due(6, "get", 0, p(23));
        r.does("set", 0, p(53), 4);
        r.due(1, "translate", 0, 0);
        r.due(8, "get", 0, p(0));
        r.due(7, "get", 0, p(3));
        r.due(6, "get", 0, p(23));
        r.due(1, "kept", 0);

        Run splits = withNumbers(16);
        splits.does("begin", 0);
        for (int i = 0; i < 8; i++) {
            splits.due(i + 1, "primitive", SPLIT, p(i), 2, 50 + i, 0);
        }
        splits.due(1, "end", NONE);
        splits.due(24, "about", 1, 0, 3);
        splits.does("record", 0);
        splits.does("set", 0, p(7), 9);
        splits.due(1, "translate", 0, 1);
        splits.due(4, "get", 0, p(7));
        splits.due(1, "get", 0, p(57));
    }

    public static void main(String[] args) {
        eightVersions();
        sixteenSteps();
        primitivesOfAStep();
        toAnotherVersion();
        onWhatThoseBeforeMade();
        numbersNotUsed();
        rename();
        add();
        remove();
        wrapANumber();
        lift();
        liftAlong();
        splitBase();
        splitRest();
        scaleFactors();
        scaleBounds();
        mapInBounds();
        sortAList();
        fullSchemas();
        finish();
    }
}
