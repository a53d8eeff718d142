import java.io.IOException;

/** A walk through 'Terms': records, what is kept for them, and how they are taken over a step. */
public final class RecordSentencesTest extends Sentences {

    private static void records() {
        says("RECORDS have HANDLES 0 .. 15,");
        Run r = withNumber(0, 9);
        for (int h = 0; h < 16; h++) {
            r.refuses(INDEX, "get", h, p(0));
            r.due(h, "record", 0);
        }
        r.refuses(UNSUPPORTED, "record", 0);
        r.refuses(INDEX, "get", 16, p(0));
        r.refuses(INDEX, "get", -1, p(0));
        r.due(0, "get", 15, p(0));

        says("a version,");
        Run v = withVersions(3);
        for (int h = 0; h < 3; h++) {
            v.does("record", h);
            v.due(h, "version", h);
        }

        says("a number or list for each such field, in its bounds;");
        Run f = withEachSort();
        f.does("record", 0);
        f.does("set", 0, p(0), -5);
        f.does("set", 0, p(2, 3, 4), 2);
        f.list(0, p(1), 9, -5);
        f.refuses(ARGUMENT, "set", 0, p(0), -6);
        f.refuses(ARGUMENT, "set", 0, p(2, 3, 4), 3);
        f.refuses(ARGUMENT, "put", 0, p(1), 0, 10);
        f.refuses(ARGUMENT, "set", 0, p(2), 1);
        f.refuses(ARGUMENT, "put", 0, p(5), 0, 1);
        f.due(-5, "get", 0, p(0));
        f.due(2, "get", 0, p(2, 3, 4));
        f.dueList(0, p(1), 9, -5);

        says("and what is KEPT for them: for a step and a primitive of it one thing at most.");
        Run k = withNumber(0, 9);
        k.step(0, NONE, MAP, p(0), 1, 2, 0, MAP, p(0), 2, 3, 0, REMOVE, p(0), 0, 0, 0);
        k.does("record", 0);
        k.due(0, "kept", 0);
        k.does("set", 0, p(0), 1);
        k.does("translate", 0, 1);
        k.due(3, "kept", 0);
        k.dueMove(0, 0, 1, 0);
        keptAgain();
    }

    /** From version 1 a record comes to 0 over version 2, so that step 0 takes it forth twice. */
    private static void keptAgain() {
        Run r = withNumber(0, 9);
        r.step(0, NONE, REMOVE, p(0), 0, 0, 0);
        r.step(1, NONE);
        r.step(2, 0, ADD, p(0), NUMBER, 0, 9);
        r.does("record", 0);
        for (int value : of(4, 6)) {
            r.does("set", 0, p(0), value);
            r.does("translate", 0, 1);
            r.due(1, "kept", 0);
            r.does("translate", 0, 2);
            r.dueMove(0, 0, 0, 1);
        }
        r.does("set", 0, p(0), 8);
        r.does("translate", 0, 1);
        r.due(1, "kept", 0);
        r.dueMove(0, 0, 8, 0);
    }

    private static void order() {
        says("A RECORD IS TAKEN over a step FORTH by its primitives in order, each forth;");
        Run r = withNumber(0, 9);
        r.step(0, NONE, MAP, p(0), 1, 2, 0, SCALE, p(0), 2, 1, 0, MAP, p(0), 4, 5, 0);
        r.step(0, NONE, SCALE, p(0), 2, 1, 0, MAP, p(0), 4, 5, 0, MAP, p(0), 1, 2, 0);
        r.does("record", 0);
        r.does("set", 0, p(0), 1);
        r.does("copy", 0);
        r.dueMove(0, 1, 5, 2);
        r.dueMove(1, 2, 2, 0);

        says("or BACK by them the other way round, each back.");
        r.dueMove(0, 0, 1, 0);
        r.dueMove(1, 0, 1, 0);
        Run back = withNumber(0, 9);
        back.step(0, NONE, SCALE, p(0), 2, 1, 0, SPLIT, p(0), 10, 1, 0);
        back.does("record", 1);
        back.does("set", 0, p(0), 1);
        back.does("set", 0, p(1), 4);
        back.dueMove(0, 0, 7, 0);

        eachOnItsOwn();

        says("(Names and places go as with the schema.)");
        Run n = withEachSort();
        n.step(0, NONE, RENAME, p(0), 9, 0, 0, LIFT, p(2, 3), 0, 0, 0, RENAME, p(3), 0, 0, 0, RENAME, p(1), 3, 0, 0);
        n.does("record", 0);
        n.does("set", 0, p(0), 7);
        n.does("set", 0, p(2, 3, 4), 2);
        n.list(0, p(1), 8, 6);
        n.does("translate", 0, 1);
        n.due(7, "get", 0, p(9));
        n.due(2, "get", 0, p(0, 4));
        n.dueList(0, p(3), 8, 6);
        n.does("set", 0, p(9), -4);
        n.does("set", 0, p(0, 4), 1);
        n.does("cut", 0, p(3), 1);
        n.does("translate", 0, 0);
        n.due(-4, "get", 0, p(0));
        n.due(1, "get", 0, p(2, 3, 4));
        n.dueList(0, p(1), 8);
        n.due(0, "kept", 0);
    }

    /** Behind the number 0, which stays, seven kinds forth and back, each on a field of its own. */
    private static void eachOnItsOwn() {
        Run r = withNumbers(7);
        r.does("field", p(7), LIST, 0, 9);
        r.step(0, NONE, WRAP, p(1), 0, 0, 0, SCALE, p(2), 1, 2, 0, MAP, p(3), 3, 4, 0, REMOVE, p(4), 0, 0, 0,
                SPLIT, p(5), 4, 4, 0, SORT, p(7), 0, 0, 0, ADD, p(8), NUMBER, 0, 9);
        r.does("record", 0);
        for (int name = 0; name < 7; name++) {
            r.does("set", 0, p(name), name);
        }
        r.does("set", 0, p(2), 9);
        r.list(0, p(7), 7, 0);
        r.due(1, "translate", 0, 1);
        r.dueList(0, p(1), 1);
        r.dueList(0, p(7), 0, 7);
        int[][] forth = {{0, 0}, {2, 4}, {3, 4}, {4, 1}, {5, 1}, {6, 6}, {8, 0}};
        for (int[] n : forth) {
            r.due(n[1], "get", 0, p(n[0]));
        }
        r.due(4, "kept", 0);
        r.list(0, p(1), 8, 2);
        r.does("set", 0, p(8), 5);
        r.due(1, "translate", 0, 0);
        int[][] back = {{0, 0}, {1, 8}, {2, 9}, {3, 3}, {4, 4}, {5, 5}, {6, 6}};
        for (int[] n : back) {
            r.due(n[1], "get", 0, p(n[0]));
        }
        r.dueList(0, p(7), 7, 0);
        r.due(2, "kept", 0);
        r.does("set", 0, p(0), 6);
        r.due(1, "translate", 0, 1);
        r.dueList(0, p(1), 8, 2);
        r.due(5, "get", 0, p(8));
        r.due(6, "get", 0, p(0));
    }

    private static void noMore() {
        says("What was kept for a primitive before it is done, either way, is kept no more behind it,");
        Run r = withNumber(0, 9);
        r.step(0, NONE, MAP, p(0), 1, 2, 0);
        r.does("record", 0);
        r.does("set", 0, p(0), 1);
        r.dueMove(0, 1, 2, 1);
        r.does("set", 0, p(0), 7);
        r.dueMove(0, 0, 7, 0);
        r.dueMove(0, 1, 7, 0);
        r.does("set", 0, p(0), 2);
        r.dueMove(0, 0, 2, 0);
        // Step 0 takes the record forth once more, with nothing to keep: what was kept is not kept on.
        Run forth = withNumber(0, 9);
        forth.step(0, NONE, REMOVE, p(0), 0, 0, 0);
        forth.step(1, NONE);
        forth.step(2, 0, ADD, p(0), NUMBER, 0, 9);
        forth.does("record", 0);
        forth.does("set", 0, p(0), 4);
        forth.does("translate", 0, 1);
        forth.does("translate", 0, 2);
        forth.dueMove(0, 0, 0, 1);
        forth.does("translate", 0, 1);
        forth.due(0, "kept", 0);
        forth.dueMove(0, 0, 0, 0);

        says("unless it is kept anew.");
        Run anew = withNumber(0, 9);
        anew.step(0, NONE, MAP, p(0), 1, 2, 0);
        anew.does("record", 0);
        anew.does("set", 0, p(0), 1);
        anew.dueMove(0, 1, 2, 1);
        anew.does("set", 0, p(0), 1);
        anew.dueMove(0, 0, 1, 1);
        anew.dueMove(0, 1, 1, 0);
    }

    private static void addAndRemove() {
        says("ADD forth, REMOVE back: the field comes with what was kept for this primitive, or else with its default.");
        Run r = withNumber(3, 9);
        r.step(0, NONE, REMOVE, p(0), 0, 0, 0, ADD, p(1), LIST, 0, 9, ADD, p(2), NUMBER, -9, -2);
        r.does("record", 1);
        r.due(-2, "get", 0, p(2));
        r.dueMove(0, 0, 3, 0);
        r.does("set", 0, p(0), 8);
        r.does("translate", 0, 1);
        r.dueList(0, p(1));
        r.due(-2, "get", 0, p(2));
        r.list(0, p(1), 5, 5);
        r.does("set", 0, p(2), -7);
        r.dueMove(0, 0, 8, 2);
        r.does("translate", 0, 1);
        r.dueList(0, p(1), 5, 5);
        r.due(-7, "get", 0, p(2));

        says("ADD back, REMOVE forth: the field goes; if it is not its default, it is kept.");
        r.refuses(ARGUMENT, "get", 0, p(0));
        r.due(1, "kept", 0);
        r.dueMove(0, 0, 8, 2);
        r.refuses(ARGUMENT, "get", 0, p(2));
        r.refuses(ARGUMENT, "size", 0, p(1));
        r.does("set", 0, p(0), 3);
        r.does("translate", 0, 1);
        r.due(0, "kept", 0);
        r.does("cut", 0, p(1), 0);
        r.does("set", 0, p(2), -2);
        r.dueMove(0, 0, 3, 0);
        eachItsOwnThing();
        // A record type has nothing that could be kept.
        Run group = new Run();
        group.does("field", p(0), GROUP, 0, 0);
        group.step(0, NONE, REMOVE, p(0), 0, 0, 0, ADD, p(1), GROUP, 0, 0);
        group.does("record", 0);
        group.does("translate", 0, 1);
        group.due(0, "kept", 0);
        group.does("translate", 0, 0);
        group.due(0, "kept", 0);
    }

    /** What is kept for two records, for two primitives each. */
    private static void eachItsOwnThing() {
        Run r = withNumbers(2);
        r.step(0, NONE, REMOVE, p(0), 0, 0, 0, REMOVE, p(1), 0, 0, 0);
        for (int h : of(0, 1)) {
            r.does("record", 0);
            r.does("set", h, p(0), 3 + h);
            r.does("set", h, p(1), 6 + h);
        }
        r.does("translate", 0, 1);
        r.does("translate", 1, 1);
        for (int h : of(0, 1)) {
            r.due(2, "kept", h);
            r.dueMove(h, 0, 3 + h, 0);
            r.due(6 + h, "get", h, p(1));
        }
    }

    /** Version 0 has a number from 2 to 9, version 1 the list that it is wrapped into. */
    private static Run withWrap() {
        Run r = withNumber(2, 9);
        r.step(0, NONE, WRAP, p(0), 0, 0, 0);
        r.does("record", 1);
        return r;
    }

    /** A list goes back, its number becomes another one, and it goes forth. */
    private static void wraps(int[] list, int number, int... due) {
        Run r = withWrap();
        r.list(0, p(0), list);
        r.does("translate", 0, 0);
        r.does("set", 0, p(0), number);
        r.does("translate", 0, 1);
        r.dueList(0, p(0), due);
        r.due(0, "kept", 0);
    }

    private static void unwraps(int[] list, int number, int kept) {
        Run r = withWrap();
        r.list(0, p(0), list);
        r.dueMove(0, 0, number, kept);
    }

    private static void wrap() {
        says("WRAP forth: a number x becomes a list of x alone.");
        wraps(of(4), 7, 7);
        wraps(of(4), 2, 2);
        Run r = withWrap();
        r.due(1, "record", 0);
        r.does("set", 1, p(0), 6);
        r.does("translate", 1, 1);
        r.dueList(1, p(0), 6);

        says("But if a list was kept: that, with x in the place of its first number, if it has some;");
        wraps(of(4, 5), 4, 4, 5);
        wraps(of(4, 5, 6), 9, 9, 5, 6);
        wraps(of(4, 5, 6), 2, 2, 5, 6);

        says("a list without numbers, if it has none and x is the default (of x alone, if x is another one).");
        wraps(of(), 2);
        wraps(of(), 3, 3);

        says("WRAP back: the first number of the list, or the default if it has none;");
        unwraps(of(7, 3), 7, 1);
        unwraps(of(7), 7, 0);
        unwraps(of(), 2, 1);

        says("a list that has not just one number is kept.");
        unwraps(of(2), 2, 0);
        unwraps(of(5, 5), 5, 1);
        unwraps(of(9, 8, 7, 6, 5, 4), 9, 1);
    }

    private static void split() {
        says("SPLIT back: the quotient times a, and the rest;");
        Run r = withNumber(-25, 47);
        r.step(0, NONE, SPLIT, p(0), 10, 1, 0);
        int[][] made = {{0, 0, 0}, {4, 7, 47}, {3, 9, 39}, {-1, 9, -1}, {-3, 5, -25}};
        for (int[] n : made) {
            r.due(0, "record", 1);
            r.does("set", 0, p(0), n[0]);
            r.does("set", 0, p(1), n[1]);
            r.dueMove(0, 0, n[2], 0);
            r.does("drop", 0);
        }

        Run wide = withNumber(MIN, MAX);
        wide.step(0, NONE, SPLIT, p(0), 1000, 1, 0);
        wide.does("record", 1);
        wide.does("set", 0, p(0), 2147483);
        wide.does("set", 0, p(1), 647);
        wide.dueMove(0, 0, MAX, 0);
        wide.does("translate", 0, 1);

        says("the record CANNOT be taken if that is not in the bounds of the number before.");
        wide.does("set", 0, p(1), 648);
        wide.refuses(ARITHMETIC, "translate", 0, 0);
        wide.does("set", 0, p(0), -2147484);
        wide.does("set", 0, p(1), 351);
        wide.refuses(ARITHMETIC, "translate", 0, 0);
        for (int[] n : new int[][] {{4, 8}, {4, 9}, {-3, 4}, {-3, 0}}) {
            r.due(0, "record", 1);
            r.does("set", 0, p(0), n[0]);
            r.does("set", 0, p(1), n[1]);
            r.refuses(ARITHMETIC, "translate", 0, 0);
            r.due(1, "version", 0);
            r.due(n[0], "get", 0, p(0));
            r.due(n[1], "get", 0, p(1));
            r.does("drop", 0);
        }
    }

    /** A new record with a number is taken over SCALE by a / b: what comes of it, and how much is kept. */
    private static void scales(int low, int high, int a, int b, int from, int[] due) {
        Run r = withNumber(low, high);
        r.step(0, NONE, SCALE, p(0), a, b, 0);
        r.does("record", from);
        r.does("set", 0, p(0), due[0]);
        r.dueMove(0, 1 - from, due[1], due[2]);
    }

    private static void scaleMapSort() {
        says("SCALE forth as told;");
        scales(-9, 9, 5, 3, 0, of(4, 6, 1));
        scales(-9, 9, 5, 3, 0, of(3, 5, 0));
        scales(-9, 9, 5, 3, 0, of(-4, -7, 1));
        scales(0, MAX, 999, 1000, 0, of(MAX, 2145336163, 1));
        scales(MIN, 0, 999, 1000, 0, of(MIN, -2145336165, 0));

        says("back the quotient of b times it and a (no int need be enough for that), rounded down,");
        scales(-9, 9, 5, 3, 1, of(15, 9, 0));
        scales(-9, 9, 5, 3, 1, of(6, 3, 1));
        scales(-9, 9, 5, 3, 1, of(-6, -4, 1));
        scales(0, MAX, 999, 1000, 1, of(2145336163, 2147483646, 1));
        scales(0, MAX, 1, 1000, 1, of(2147483, 2147483000, 0));

        says("or the bound that is nearest, if that is not in the bounds before.");
        scales(7, 100, 1, 5, 1, of(1, 7, 0));
        scales(-103, 100, 1, 5, 1, of(-21, -103, 0));
        scales(MIN, 0, 1, 1000, 1, of(-2147484, MIN, 0));

        says("MAP forth: a becomes b, all else stays;");
        Run m = withNumber(0, 9);
        m.step(0, NONE, MAP, p(0), 4, 6, 0);
        for (int value = 0; value < 10; value++) {
            m.due(0, "record", 0);
            m.does("set", 0, p(0), value);
            m.dueMove(0, 1, value == 4 ? 6 : value, value == 4 ? 1 : 0);
            m.does("drop", 0);
        }

        says("back: all stays.");
        for (int value = 0; value < 10; value++) {
            m.due(0, "record", 1);
            m.does("set", 0, p(0), value);
            m.dueMove(0, 0, value, value == 4 ? 1 : 0);
            m.does("drop", 0);
        }

        says("SORT forth as told; back: all stays.");
        Run s = withList(0, 9);
        s.step(0, NONE, SORT, p(0), 0, 0, 0);
        s.does("record", 0);
        s.list(0, p(0), 3, 1, 2);
        s.does("translate", 0, 1);
        s.dueList(0, p(0), 1, 2, 3);
        s.does("record", 1);
        s.list(1, p(0), 3, 1, 2);
        s.does("translate", 1, 0);
        s.dueList(1, p(0), 3, 1, 2);
    }

    /**
     * A number goes from a version to the other one and comes back; then another one stands there instead
     * of what came of it.
     */
    private static void comesBack(int from, int[] primitive, int was, int came, int other, int due) {
        Run r = withNumber(-9, 9);
        r.step(0, NONE, primitive);
        r.does("record", from);
        r.does("set", 0, p(0), was);
        r.dueMove(0, 1 - from, came, 1);
        r.does("set", 0, p(0), other);
        r.does("set", 0, p(0), came);
        r.dueMove(0, from, was, 0);
        r.dueMove(0, 1 - from, came, 1);
        r.does("set", 0, p(0), other);
        r.dueMove(0, from, due, 0);
    }

    private static void whatWasThen() {
        says("But with these three: if something was kept from the other direction, and what came of it then"
                + " is there now, what was then comes.");
        comesBack(0, of(SCALE, p(0), 1, 3, 0), 8, 2, 3, 9);
        comesBack(1, of(SCALE, p(0), 3, 1, 0), 8, 2, 3, 9);
        comesBack(0, of(MAP, p(0), 8, 2, 0), 8, 2, 3, 3);
        comesBack(1, of(MAP, p(0), 8, 2, 0), 8, 8, 3, 3);
        for (int from : of(0, 1)) {
            Run s = withList(0, 9);
            s.step(0, NONE, SORT, p(0), 0, 0, 0);
            s.does("record", from);
            s.list(0, p(0), 3, 1, 2);
            s.does("translate", 0, 1 - from);
            s.due(1, "kept", 0);
            s.does("translate", 0, from);
            s.dueList(0, p(0), 3, 1, 2);
            s.does("translate", 0, 1 - from);
            s.list(0, p(0), 1, 2);
            s.does("translate", 0, from);
            s.dueList(0, p(0), 1, 2);
            s.due(0, "kept", 0);
        }
        notFromTheSameDirection();
    }

    /** Step 0 takes a record forth twice: it comes back to version 0 over step 2. */
    private static void notFromTheSameDirection() {
        Run r = withNumber(0, 10);
        r.step(0, NONE, SCALE, p(0), 1, 2, 0);
        r.step(1, NONE);
        r.step(0, 2, SCALE, p(0), 1, 2, 0);
        r.does("record", 0);
        r.does("set", 0, p(0), 7);
        r.dueMove(0, 1, 3, 1);
        r.dueMove(0, 2, 3, 1);
        r.dueMove(0, 0, 6, 1);
        r.does("set", 0, p(0), 3);
        r.dueMove(0, 1, 1, 1);
    }

    private static void bothAreKept() {
        says("Otherwise, if the other direction (nothing being kept) would not lead from what comes of it to what was,"
                + " both are kept: what was, and what comes of it.");
        for (int value = -9; value <= 9; value++) {
            int third = Math.floorDiv(value, 3);
            scales(-9, 9, 1, 3, 0, of(value, third, 3 * third == value ? 0 : 1));
            scales(-3, 3, 3, 1, 1, of(value, third, 3 * third == value ? 0 : 1));
        }
        Run r = withNumber(0, 9);
        r.step(0, NONE, MAP, p(0), 4, 6, 0);
        r.does("record", 0);
        r.does("set", 0, p(0), 4);
        r.dueMove(0, 1, 6, 1);
        // What came of 4 is not there now, so that 4 is kept anew, from this direction.
        r.does("set", 0, p(0), 4);
        r.dueMove(0, 0, 4, 1);
        r.dueMove(0, 1, 4, 0);
        r.does("set", 0, p(0), 6);
        r.dueMove(0, 0, 6, 0);
        for (int[] list : new int[][] {{}, {5}, {1, 2, 2, 3}, {2, 1}, {1, 2, 0}}) {
            Run s = withList(0, 9);
            s.step(0, NONE, SORT, p(0), 0, 0, 0);
            s.does("record", 0);
            s.list(0, p(0), list);
            s.does("translate", 0, 1);
            s.due(list.length == 2 || list.length == 3 ? 1 : 0, "kept", 0);
            s.does("record", 1);
            s.list(1, p(0), list);
            s.does("translate", 1, 0);
            s.due(list.length == 2 || list.length == 3 ? 1 : 0, "kept", 1);
        }
    }

    public static void main(String[] args) throws IOException {
        records();
        order();
        noMore();
        addAndRemove();
        wrap();
        split();
        scaleMapSort();
        whatWasThen();
        bothAreKept();
        finishWalk("RECORDS have HANDLES", "THE ROUTE from");
    }
}
