/** The boundaries of records, of how they are taken over steps and of what is kept, under 'Terms'. */
public final class RecordBoundaryTest extends Boundaries {

    private static void handles() {
        sentence("Terms: 'RECORDS have HANDLES 0 .. 15'");
        Run r = withRecords(15);
        r.refuses(INDEX, "get", 15, p(0));
        r.due(15, "record", 0);
        r.refuses(UNSUPPORTED, "record", 0);
        r.refuses(INDEX, "get", 16, p(0));
        r.refuses(INDEX, "get", -1, p(0));
        r.does("set", 15, p(0), 4);
        r.due(4, "get", 15, p(0));
        r.due(0, "get", 0, p(0));
        r.due(0, "get", 14, p(0));
    }

    private static void valuesInBounds() {
        sentence("Terms: 'a number or list for each such field, in its bounds'");
        int[][] bounds = {{-3, 7}, {5, 5}, {MIN, -1}, {0, MAX}};
        for (int[] b : bounds) {
            Run r = withNumber(b[0], b[1]);
            r.does("field", p(1), LIST, b[0], b[1]);
            r.does("record", 0);
            for (int value : b) {
                r.does("set", 0, p(0), value);
                r.due(value, "get", 0, p(0));
                r.due(1, "put", 0, p(1), 0, value);
                r.dueList(0, p(1), value);
            }
            for (int value : of(b[0] - 1, b[1] + 1)) {
                r.refuses(ARGUMENT, "set", 0, p(0), value);
                r.refuses(ARGUMENT, "put", 0, p(1), 0, value);
                r.refuses(ARGUMENT, "put", 0, p(1), 1, value);
            }
        }
    }

    /** Eight versions and sixteen steps of eight MAPs, over which a record can go, each one once. */
    private static void mostKept() {
        sentence("Terms: 'for a step and a primitive of it one thing at most' - of all steps and primitives one");
        Run r = withNumber(0, 9);
        for (int s = 0; s < 16; s++) {
            int from = s < 8 ? s : s < 12 ? 2 * (s - 8) : 2 * (s - 12) + 1;
            int to = s < 7 ? NONE : s == 7 ? 0 : (from + 2) % 8;
            r.does("begin", from);
            for (int i = 1; i <= 8; i++) {
                r.does("primitive", MAP, p(0), i, i + 1, 0);
            }
            r.does("end", to);
        }
        r.does("record", 0);
        int things = 0;
        for (int to : of(1, 3, 5, 7, 1, 2, 3, 4, 5, 6, 7, 0, 2, 4, 6, 0)) {
            r.does("set", 0, p(0), 1);
            r.due(1, "translate", 0, to);
            things += 8;
            r.due(9, "get", 0, p(0));
            r.due(things, "kept", 0);
        }
        r.due(1, "copy", 0);
        r.due(128, "kept", 1);
        r.due(1, "translate", 1, 6);
        r.due(1, "get", 1, p(0));
        r.due(120, "kept", 1);
        r.due(128, "kept", 0);
    }

    /** A number that step 0 removes and step 2, on the way round, brings anew. */
    private static void oneThing() {
        sentence("Terms: 'for a step and a primitive of it one thing at most' - kept twice from one direction");
        Run r = withNumber(0, 9);
        r.step(0, NONE, REMOVE, p(0), 0, 0, 0);
        r.step(1, NONE);
        r.step(2, 0, ADD, p(0), NUMBER, 0, 9);
        r.does("record", 0);
        r.does("set", 0, p(0), 5);
        r.due(1, "translate", 0, 1);
        r.due(1, "kept", 0);
        r.due(1, "translate", 0, 2);
        r.dueMove(0, 0, 0, 1);
        r.does("set", 0, p(0), 7);
        r.due(1, "translate", 0, 1);
        r.due(1, "kept", 0);
        r.dueMove(0, 0, 7, 0);

        sentence("Terms: 'What was kept for a primitive before it is done, either way, is kept no more behind it'");
        r.does("translate", 0, 1);
        r.does("translate", 0, 2);
        r.dueMove(0, 0, 0, 1);
        r.due(1, "translate", 0, 1);
        r.due(0, "kept", 0);
        r.dueMove(0, 0, 0, 0);
    }

    private static void comesAndGoes() {
        sentence("Terms: 'ADD back, REMOVE forth: the field goes; if it is not its default, it is kept' - numbers");
        int[][] numbers = {{-9, 9, 0, 0}, {-9, 9, 1, 1}, {-9, 9, -1, 1}, {3, 9, 3, 0}, {3, 9, 4, 1}, {-9, -3, -3, 0},
            {-9, -3, -4, 1}, {MIN, MAX, MIN, 1}, {MIN, MAX, MAX, 1}, {MIN, MAX, 0, 0}};
        for (int[] n : numbers) {
            Run r = withNumber(n[0], n[1]);
            r.step(0, NONE, REMOVE, p(0), 0, 0, 0);
            r.step(1, NONE, ADD, p(0), NUMBER, n[0], n[1]);
            for (int v : of(0, 2)) {
                r.does("record", v);
                r.does("set", v / 2, p(0), n[2]);
                r.does("translate", v / 2, 1);
                r.due(n[3], "kept", v / 2);
                r.dueMove(v / 2, v, n[2], 0);
            }
        }
        sentence("Terms: 'ADD back, REMOVE forth: .. if it is not its default, it is kept' - lists");
        for (int[] l : new int[][] {{}, {0}, {3}, {1, 2, 3, 4, 5, 6}}) {
            Run r = withList(0, 9);
            r.step(0, NONE, REMOVE, p(0), 0, 0, 0);
            r.step(1, NONE, ADD, p(0), LIST, 0, 9);
            for (int v : of(0, 2)) {
                r.does("record", v);
                r.list(v / 2, p(0), l);
                r.does("translate", v / 2, 1);
                r.due(l.length == 0 ? 0 : 1, "kept", v / 2);
                r.does("translate", v / 2, v);
                r.dueList(v / 2, p(0), l);
                r.due(0, "kept", v / 2);
            }
        }
        comesWithItsOwn();
    }

    private static void comesWithItsOwn() {
        sentence("Terms: 'the field comes with what was kept for this primitive' - of two records each its own");
        Run two = withNumber(3, 9);
        two.step(0, NONE, REMOVE, p(0), 0, 0, 0);
        two.does("record", 0);
        two.does("record", 0);
        two.does("set", 0, p(0), 7);
        two.does("set", 1, p(0), 8);
        two.does("translate", 0, 1);
        two.does("translate", 1, 1);
        two.dueMove(0, 0, 7, 0);
        two.dueMove(1, 0, 8, 0);

        sentence("Terms: 'the field comes with what was kept for this primitive, or else with its default'");
        Run r = withNumber(3, 9);
        r.step(0, NONE, REMOVE, p(0), 0, 0, 0, ADD, p(0), NUMBER, 4, 8);
        r.does("record", 0);
        r.does("set", 0, p(0), 9);
        r.dueMove(0, 1, 4, 1);
        r.does("set", 0, p(0), 8);
        r.dueMove(0, 0, 9, 1);
        r.does("set", 0, p(0), 3);
        r.dueMove(0, 1, 8, 0);
        r.dueMove(0, 0, 3, 1);
    }

    private static void wrapped() {
        sentence("Terms: 'WRAP forth: a number x becomes a list of x alone'");
        Run r = withNumber(2, 9);
        r.step(0, NONE, WRAP, p(0), 0, 0, 0);
        r.does("record", 0);
        for (int x : of(2, 3, 9)) {
            r.does("set", 0, p(0), x);
            r.does("translate", 0, 1);
            r.dueList(0, p(0), x);
            r.dueMove(0, 0, x, 0);
        }
        sentence("Terms: WRAP back '.. a list that has not just one number is kept'");
        int[][] lists = {{}, {5}, {5, 6}, {5, 5}, {9, 8, 7, 6, 5, 4}};
        for (int[] l : lists) {
            Run b = withNumber(2, 9);
            b.step(0, NONE, WRAP, p(0), 0, 0, 0);
            b.does("record", 1);
            b.list(0, p(0), l);
            b.dueMove(0, 0, l.length == 0 ? 2 : l[0], l.length == 1 ? 0 : 1);
            b.does("translate", 0, 1);
            b.dueList(0, p(0), l);
            b.due(0, "kept", 0);
        }
        sentence("Terms: WRAP forth 'if a list was kept: that, with x in the place of its first number, if it has some'");
        for (int[] l : new int[][] {{5, 6}, {9, 8, 7, 6, 5, 4}}) {
            for (int x : of(2, 3)) {
                Run b = withNumber(2, 9);
                b.step(0, NONE, WRAP, p(0), 0, 0, 0);
                b.does("record", 1);
                b.list(0, p(0), l);
                b.does("translate", 0, 0);
                b.does("set", 0, p(0), x);
                b.does("translate", 0, 1);
                int[] with = l.clone();
                with[0] = x;
                b.dueList(0, p(0), with);
            }
        }
    }

    private static void wrappedWithout() {
        sentence("Terms: WRAP forth 'a list without numbers, if it has none and x is the default'");
        int[][] bounds = {{2, 9, 2}, {-9, 9, 0}, {-9, -2, -2}, {5, 5, 5}};
        for (int[] b : bounds) {
            Run r = withNumber(b[0], b[1]);
            r.step(0, NONE, WRAP, p(0), 0, 0, 0);
            r.does("record", 1);
            r.dueMove(0, 0, b[2], 1);
            r.does("translate", 0, 1);
            r.dueList(0, p(0));
            r.due(0, "kept", 0);
        }
        sentence("Terms: WRAP forth '(of x alone, if x is another one)'");
        int[][] others = {{2, 9, 3}, {-9, 9, 1}, {-9, 9, -1}, {-9, -2, -3}, {2, 9, 9}};
        for (int[] b : others) {
            Run r = withNumber(b[0], b[1]);
            r.step(0, NONE, WRAP, p(0), 0, 0, 0);
            r.does("record", 1);
            r.does("translate", 0, 0);
            r.does("set", 0, p(0), b[2]);
            r.does("translate", 0, 1);
            r.dueList(0, p(0), b[2]);
            r.due(0, "kept", 0);
        }
    }

    private static void joinBack(int low, int high, int base, int quotient, int rest, String exception) {
        Run r = withNumber(low, high);
        r.step(0, NONE, SPLIT, p(0), base, 1, 0);
        r.does("record", 1);
        r.does("set", 0, p(0), quotient);
        r.does("set", 0, p(1), rest);
        if (exception != null) {
            r.refuses(exception, "translate", 0, 0);
            r.due(1, "version", 0);
            r.due(quotient, "get", 0, p(0));
            r.due(rest, "get", 0, p(1));
        } else {
            r.dueMove(0, 0, quotient * base + rest, 0);
        }
    }

    private static void splitBack() {
        sentence("Terms: SPLIT back 'CANNOT be taken if that is not in the bounds of the number before'");
        joinBack(-25, 31, 10, 3, 1, null);
        joinBack(-25, 31, 10, 3, 2, ARITHMETIC);
        joinBack(-25, 31, 10, 3, 9, ARITHMETIC);
        joinBack(-25, 31, 10, -3, 5, null);
        joinBack(-25, 31, 10, -3, 4, ARITHMETIC);
        joinBack(-25, 31, 10, -3, 0, ARITHMETIC);
        joinBack(0, 0, 2, 0, 0, null);
        joinBack(0, 0, 2, 0, 1, ARITHMETIC);
        joinBack(-1, -1, 1000, -1, 999, null);
        joinBack(-1, -1, 1000, -1, 998, ARITHMETIC);

        sentence("Terms: SPLIT back, beyond what an int holds");
        joinBack(MIN, MAX, 1000, 2147483, 647, null);
        joinBack(MIN, MAX, 1000, 2147483, 648, ARITHMETIC);
        joinBack(MIN, MAX, 1000, 2147483, 999, ARITHMETIC);
        joinBack(MIN, MAX, 1000, -2147484, 352, null);
        joinBack(MIN, MAX, 1000, -2147484, 351, ARITHMETIC);
        joinBack(MIN, MAX, 1000, -2147484, 0, ARITHMETIC);
        joinBack(MIN, MAX, 2, 1073741823, 1, null);
        joinBack(MIN, MAX, 2, -1073741824, 0, null);
    }

    /** Behind a SCALE, a number goes back. */
    private static void scaledBack(int low, int high, int a, int b, int value, int due, int kept) {
        Run r = withNumber(low, high);
        r.step(0, NONE, SCALE, p(0), a, b, 0);
        r.does("record", 1);
        r.does("set", 0, p(0), value);
        r.dueMove(0, 0, due, kept);
        r.dueMove(0, 1, value, 0);
    }

    private static void scaleBack() {
        sentence("Terms: SCALE back 'the quotient of b times it and a, rounded down'");
        scaledBack(-50, 50, 2, 1, 7, 3, 1);
        scaledBack(-50, 50, 2, 1, -7, -4, 1);
        scaledBack(-50, 50, 2, 1, -8, -4, 0);
        scaledBack(-50, 50, 3, 2, 7, 4, 1);
        scaledBack(-50, 50, 3, 2, 6, 4, 0);

        sentence("Terms: SCALE back '.. or the bound that is nearest, if that is not in the bounds before'");
        scaledBack(5, 1000, 1, 10, 0, 5, 0);
        scaledBack(5, 1000, 1, 10, 1, 10, 0);
        scaledBack(-1004, 1000, 1, 10, -101, -1004, 0);
        scaledBack(-1004, 1000, 1, 10, -100, -1000, 0);
        scaledBack(1, 1, 1, 1000, 0, 1, 0);
        scaledBack(-1, -1, 1, 1000, -1, -1, 0);

        sentence("Terms: SCALE back '(no int need be enough for that)'");
        scaledBack(MIN, 0, 1, 1000, -2147484, MIN, 0);
        scaledBack(MIN, 0, 1, 1000, -2147483, -2147483000, 0);
        scaledBack(0, MAX, 1, 1000, 2147483, 2147483000, 0);
        scaledBack(0, MAX, 999, 1000, 2145336163, 2147483646, 1);
        scaledBack(0, MAX, 1, 1, MAX, MAX, 0);
        scaledBack(MIN, 0, 999, 1000, -2145336165, MIN, 0);
        scaledBack(MIN, 0, 999, 1000, -2145336164, MIN, 1);
        scaledBack(MIN, 0, 999, 1000, -2145336163, MIN + 1, 1);
    }

    private static void keptOfThree() {
        sentence("Terms: 'if the other direction would not lead from what comes of it to what was, both are kept'");
        int[][] numbers = {{0, 0, 0}, {1, 0, 1}, {2, 0, 1}, {3, 1, 0}, {4, 1, 1}, {-1, -1, 1}, {-3, -1, 0}};
        for (int[] n : numbers) {
            Run r = withNumber(-9, 9);
            r.step(0, NONE, SCALE, p(0), 1, 3, 0);
            r.does("record", 0);
            r.does("set", 0, p(0), n[0]);
            r.dueMove(0, 1, n[1], n[2]);
            r.dueMove(0, 0, n[0], 0);
        }
        int[][] mapped = {{3, 3, 0}, {4, 7, 1}, {5, 5, 0}, {6, 6, 0}, {7, 7, 0}, {8, 8, 0}};
        for (int[] n : mapped) {
            Run r = withNumber(-9, 9);
            r.step(0, NONE, MAP, p(0), 4, 7, 0);
            r.does("record", 0);
            r.does("set", 0, p(0), n[0]);
            r.dueMove(0, 1, n[1], n[2]);
            r.dueMove(0, 0, n[0], 0);
            r.does("record", 1);
            r.does("set", 1, p(0), n[0]);
            r.dueMove(1, 0, n[0], n[0] == 4 ? 1 : 0);
            r.dueMove(1, 1, n[0], 0);
        }
        sentence("Terms: 'if something was kept .., and what came of it then is there now, what was then comes'");
        Run r = withNumber(-9, 9);
        r.step(0, NONE, SCALE, p(0), 1, 3, 0);
        r.does("record", 0);
        r.does("set", 0, p(0), 8);
        r.dueMove(0, 1, 2, 1);
        r.does("set", 0, p(0), 3);
        r.does("set", 0, p(0), 2);
        r.dueMove(0, 0, 8, 0);
        r.dueMove(0, 1, 2, 1);
        r.does("set", 0, p(0), 3);
        r.dueMove(0, 0, 9, 0);
        r.does("set", 0, p(0), 8);
        r.dueMove(0, 1, 2, 1);
        r.does("set", 0, p(0), 1);
        r.dueMove(0, 0, 3, 0);
    }

    /** Two SCALEs beside each other: a record comes to the first one twice from one side. */
    private static void keptFromTheOtherDirection() {
        sentence("Terms: 'if something was kept from the other direction' - not from the same one");
        Run r = withNumber(0, 10);
        r.step(0, NONE, SCALE, p(0), 1, 2, 0);
        r.step(1, NONE);
        r.step(0, 2, SCALE, p(0), 1, 2, 0);
        r.does("record", 0);
        r.does("set", 0, p(0), 7);
        r.dueMove(0, 1, 3, 1);
        r.dueMove(0, 2, 3, 1);
        r.dueMove(0, 0, 6, 1);
        r.does("set", 0, p(0), 3);
        r.dueMove(0, 1, 1, 1);
        r.dueMove(0, 0, 3, 0);
    }

    private static void sortKept() {
        sentence("Terms: SORT forth as told, back all stays; kept where the other direction would not lead back");
        Run r = withList(-9, 9);
        r.step(0, NONE, SORT, p(0), 0, 0, 0);
        r.does("record", 0);
        r.list(0, p(0), 2, 1, 2);
        r.does("translate", 0, 1);
        r.dueList(0, p(0), 1, 2, 2);
        r.due(1, "kept", 0);
        r.does("cut", 0, p(0), 2);
        r.does("translate", 0, 0);
        r.dueList(0, p(0), 1, 2);
        r.due(0, "kept", 0);
        r.list(0, p(0), 2, 1, 2);
        r.does("translate", 0, 1);
        r.due(4 - 1, "put", 0, p(0), 2, 3);
        r.does("translate", 0, 0);
        r.dueList(0, p(0), 1, 2, 3);
        r.due(0, "kept", 0);
        r.does("translate", 0, 1);
        r.list(0, p(0), 1, 1, 0);
        r.does("translate", 0, 0);
        r.dueList(0, p(0), 1, 1, 0);
        r.due(1, "kept", 0);
        r.does("translate", 0, 1);
        r.dueList(0, p(0), 1, 1, 0);
        r.due(0, "kept", 0);
    }

    public static void main(String[] args) {
        handles();
        valuesInBounds();
        mostKept();
        oneThing();
        comesAndGoes();
        wrapped();
        wrappedWithout();
        splitBack();
        scaleBack();
        keptOfThree();
        keptFromTheOtherDirection();
        sortKept();
        finish();
    }
}
