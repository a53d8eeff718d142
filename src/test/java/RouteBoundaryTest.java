/** The boundaries of the route and of terms, under 'Terms'. */
public final class RouteBoundaryTest extends Boundaries {

    private static void toItself() {
        sentence("Terms: 'THE ROUTE .. (each forth or back; none to itself)' - what is kept stays");
        Run r = withNumber(0, 9);
        r.step(0, NONE, SCALE, p(0), 1, 2, 0);
        r.does("record", 0);
        r.does("set", 0, p(0), 5);
        r.dueMove(0, 1, 2, 1);
        r.due(0, "translate", 0, 1);
        r.due(1, "kept", 0);
        r.dueMove(0, 0, 5, 0);
    }

    private static void fewestSteps() {
        sentence("Terms: 'THE ROUTE .. is the way over the fewest steps (.. none to itself)'");
        Run r = withVersions(2);
        r.does("record", 0);
        r.due(0, "route", 0, 0, 0);
        r.due(NONE, "route", 0, 0, 1);
        r.due(0, "translate", 0, 0);
        r.step(1, NONE);
        r.step(2, NONE);
        r.due(3, "translate", 0, 3);
        r.due(0, "translate", 0, 3);
        r.step(3, 0);
        r.due(3, "route", 0, 3, 1);
        r.due(1, "translate", 0, 0);
        r.due(2, "translate", 0, 2);

        sentence("Terms: the route, 'of several the one that has the lesser version where they differ first'");
        r.due(1, "route", 0, 2, 1);
        r.due(1, "route", 2, 0, 1);
        r.due(0, "route", 1, 3, 1);
        r.due(0, "route", 3, 1, 1);
    }

    /** Ways 0-2-3-5 and 0-1-4-5: told from 5 on, 3 would be the lesser one. */
    private static void theSameWayBack() {
        sentence("Terms: 'From a greater version to a lesser one it is the same way back'");
        Run r = withVersions(3);
        r.step(2, NONE);
        r.step(1, NONE);
        r.step(3, NONE);
        r.step(4, 5);
        for (int k = 0; k < 4; k++) {
            r.due(of(0, 1, 4, 5)[k], "route", 0, 5, k);
            r.due(of(5, 4, 1, 0)[k], "route", 5, 0, k);
        }
        r.due(NONE, "route", 0, 5, 4);
        r.due(NONE, "route", 5, 0, 4);
    }

    private static void firstOfSeveralSteps() {
        sentence("Terms: 'of several steps between two versions the first one'");
        Run r = withNumber(0, 9);
        r.step(0, NONE, MAP, p(0), 1, 2, 0);
        r.step(1, 0, MAP, p(0), 1, 3, 0);
        r.step(0, 1, MAP, p(0), 1, 4, 0);
        r.does("record", 0);
        r.does("set", 0, p(0), 1);
        r.dueMove(0, 1, 2, 1);
        r.dueMove(0, 0, 1, 0);
    }

    private static void longestRoute() {
        sentence("Terms: the route over all 8 versions");
        Run r = withNumber(0, 9);
        for (int v = 0; v < 7; v++) {
            r.step(v, NONE, MAP, p(0), v, v + 1, 0);
        }
        r.does("record", 0);
        r.due(7, "translate", 0, 7);
        r.due(7, "get", 0, p(0));
        r.due(7, "kept", 0);
        for (int k = 0; k < 8; k++) {
            r.due(k, "route", 0, 7, k);
            r.due(7 - k, "route", 7, 0, k);
        }
        r.due(NONE, "route", 0, 7, 8);
        r.due(7, "translate", 0, 0);
        r.due(0, "get", 0, p(0));
        r.due(0, "kept", 0);
    }

    /**
     * Version 3 has the number 0 with these bounds, and the way to it from version 0, which has a number 7
     * alone, goes over version 1, with numbers of its own, and back over a step of one primitive. Behind
     * these, a step from version 0 to 3 makes a number too, or one to a version behind 3.
     */
    private static Run backOver(int[] numbers, int low, int high, int... primitive) {
        Run r = new Run();
        r.does("field", p(7), NUMBER, 0, 1);
        r.step(0, NONE, numbers);
        r.step(0, NONE);
        r.step(2, NONE, ADD, p(0), NUMBER, low, high);
        r.step(3, 1, primitive);
        return r;
    }

    private static void splitBackOfTerms(int quotient, int rest, int joined, int clash) {
        int[] numbers = of(ADD, p(0), NUMBER, -2147484, 2147483, MAP, p(0), 0, quotient, 0,
                ADD, p(1), NUMBER, 0, 999, MAP, p(1), 0, rest, 0);
        Run r = backOver(numbers, MIN, MAX, SPLIT, p(0), 1000, 1, 0);
        r.step(0, 3, ADD, p(0), NUMBER, MIN, MAX, MAP, p(0), 0, joined, 0);
        r.due(clash, "clash", 4);
    }

    private static void wrapRound() {
        sentence("Terms: terms, SPLIT back 'of two numbers what they make (.. as an int)': the lowest 32 bits");
        splitBackOfTerms(2147483, 647, MAX, 0);
        splitBackOfTerms(2147483, 648, MIN, 0);
        splitBackOfTerms(2147483, 648, MAX, 1);
        splitBackOfTerms(2147483, 999, -2147483297, 0);
        splitBackOfTerms(-2147484, 352, MIN, 0);
        splitBackOfTerms(-2147484, 351, MAX, 0);
        splitBackOfTerms(-2147484, 351, MIN, 1);
        splitBackOfTerms(-2147484, 1, 2147483297, 0);

        sentence("Terms: terms, SPLIT back 'of two numbers what they make (whatever bounds)'");
        whateverBounds(5, 5, 4, 4);
        whateverBounds(-5, -5, 4, 1000 - 8);
        whateverBounds(4, 5, 4, 4);

        sentence("Terms: terms, SCALE forth 'of a number what comes of it (as an int)': the lowest 32 bits");
        scaleForthOfTerms(2147, 482, Math.floorMod(2147482000, 7));
        scaleForthOfTerms(2147, 483, Math.floorMod(2147483000, 7));
        scaleForthOfTerms(2147, 485, Math.floorMod(2147485000L - (1L << 32), 7));
        scaleForthOfTerms(2147, 999, Math.floorMod(2147999000L - (1L << 32), 7));
        scaleForthOfTerms(-2148, 517, Math.floorMod(-2147483000, 7));
        scaleForthOfTerms(-2148, 515, Math.floorMod(-2147485000L + (1L << 32), 7));
        scaleForthOfTerms(-2148, 1, Math.floorMod(-2147999000L + (1L << 32), 7));
    }

    /** The quotient's and the rest's default back over SPLIT, then its rest by 1000. */
    private static void whateverBounds(int low, int high, int base, int due) {
        Run r = withNumber(low, high);
        r.step(0, NONE, SPLIT, p(0), base, 1, 0);
        r.step(1, NONE, REMOVE, p(0), 0, 0, 0, REMOVE, p(1), 0, 0, 0);
        r.step(0, NONE, SPLIT, p(0), 1000, 1, 0, REMOVE, p(0), 0, 0, 0);
        r.step(2, 3, ADD, p(1), NUMBER, 0, 999, MAP, p(1), 0, due, 0);
        r.due(0, "clash", 3);
    }

    /** SPLIT back makes a number beyond its bounds, 1000 times which may be no int; then its rest by 7. */
    private static void scaleForthOfTerms(int quotient, int rest, int due) {
        int[] numbers = of(ADD, p(0), NUMBER, -2148, 2147, MAP, p(0), 0, quotient, 0,
                ADD, p(1), NUMBER, 0, 999, MAP, p(1), 0, rest, 0);
        Run r = backOver(numbers, -2147483, 2147483, SPLIT, p(0), 1000, 1, 0);
        r.step(3, NONE, SCALE, p(0), 1000, 1, 0, SPLIT, p(0), 7, 1, 0, REMOVE, p(0), 0, 0, 0);
        r.step(0, 4, ADD, p(1), NUMBER, 0, 6, MAP, p(1), 0, due, 0);
        r.due(0, "clash", 5);
        r.step(0, 4, ADD, p(1), NUMBER, 0, 6);
        r.due(1, "clash", 6);
    }

    private static void scaleBackOfTerms(int number, int back, int clash) {
        Run r = backOver(of(ADD, p(0), NUMBER, -2147484, 0, MAP, p(0), 0, number, 0), MIN, 0,
                SCALE, p(0), 1, 1000, 0);
        r.step(0, 3, ADD, p(0), NUMBER, MIN, 0, MAP, p(0), 0, back, 0);
        r.due(clash, "clash", 4);
    }

    private static void numbersOfTerms() {
        sentence("Terms: terms, SCALE back 'of a number what comes of it': the nearest bound, beyond ints too");
        scaleBackOfTerms(-2147484, MIN, 0);
        scaleBackOfTerms(-2147484, MIN + 1, 1);
        scaleBackOfTerms(-2147483, -2147483000, 0);
        scaleBackOfTerms(-2147483, -2147482999, 1);

        sentence("Terms: terms, WRAP back 'of E: the default'");
        int[][] bounds = {{2, 9, 2}, {-9, 9, 0}, {-9, -2, -2}};
        for (int[] b : bounds) {
            Run r = backOver(of(ADD, p(0), LIST, b[0], b[1]), b[0], b[1], WRAP, p(0), 0, 0, 0);
            r.step(0, 3, ADD, p(0), NUMBER, b[0], b[1]);
            r.due(0, "clash", 4);
            r.step(0, 3, ADD, p(0), NUMBER, b[0], b[1], MAP, p(0), b[2], b[1] == 9 ? 9 : -9, 0);
            r.due(1, "clash", 5);
        }
        sentence("Terms: terms, MAP forth 'of a number what comes of it'");
        for (int[] n : new int[][] {{0, 0}, {1, 1}, {3, 3}, {2, 5}}) {
            Run r = withNumber(0, 9);
            r.step(0, NONE, REMOVE, p(0), 0, 0, 0, ADD, p(0), NUMBER, 0, 9, MAP, p(0), 0, 9, 0,
                    MAP, p(0), 9, n[0], 0);
            r.does("begin", 0);
            r.does("primitive", REMOVE, p(0), 0, 0, 0);
            r.does("primitive", ADD, p(0), NUMBER, 0, 9);
            r.does("primitive", MAP, p(0), 0, 8, 0);
            r.does("primitive", MAP, p(0), 8, n[0], 0);
            r.does("primitive", MAP, p(0), 2, 5, 0);
            r.due(1, "end", 1);
            r.due(n[0] == n[1] ? 0 : 1, "clash", 1);
        }
    }

    /** What clash tells of two steps from version 0, which has a number 0 and a list 1. */
    private static void beside(int due, int[] one, int[] other) {
        Run r = withNumber(-20, 30);
        r.does("field", p(1), LIST, 2, 30);
        r.step(0, NONE, one);
        r.step(0, 1, other);
        r.due(due, "clash", 0);
        r.due(due, "clash", 1);
    }

    private static void sameFactors() {
        sentence("Terms: terms, SCALE 't itself if a is b'");
        beside(0, of(), of(SCALE, p(0), 1, 1, 0));
        beside(0, of(), of(SCALE, p(0), 1000, 1000, 0));
        beside(0, of(SCALE, p(0), 7, 7, 0), of(SCALE, p(0), 8, 8, 0));
        Run r = withNumber(0, 0);
        r.step(0, NONE);
        r.step(0, 1, SCALE, p(0), 999, 1000, 0);
        r.due(1, "clash", 0);
        r.due(1, "clash", 1);
        Run back = withNumber(0, 0);
        back.step(0, NONE);
        back.step(1, 0, SCALE, p(0), 999, 1000, 0);
        back.due(1, "clash", 0);
        Run backSame = withNumber(0, 0);
        backSame.step(0, NONE);
        backSame.step(1, 0, SCALE, p(0), 999, 999, 0);
        backSame.due(0, "clash", 0);
    }

    private static void splitTerms() {
        sentence("Terms: terms, SPLIT forth 'of J t u a with the same a: t and u; else Q t a and R t a'");
        for (int base : of(2, 3)) {
            Run r = withNumber(0, 1);
            r.step(0, NONE, SPLIT, p(0), 3, 1, 0);
            r.step(0, NONE, SPLIT, p(0), base, 1, 0, REMOVE, p(1), 0, 0, 0);
            r.step(1, 2, REMOVE, p(1), 0, 0, 0);
            r.due(base == 3 ? 0 : 1, "clash", 2);
        }
        Run j = withNumber(0, 5);
        j.step(0, NONE, SPLIT, p(0), 3, 1, 0);
        j.step(1, NONE);
        j.step(0, 2, ADD, p(7), GROUP, 0, 0, REMOVE, p(7), 0, 0, 0, SPLIT, p(0), 3, 1, 0);
        j.due(0, "clash", 1);
        j.due(0, "clash", 0);

        sentence("Terms: terms, SPLIT forth 'of a number its quotient and rest'");
        int[][] numbers = {{-7, 5, -2, 3}, {-1, 5, -1, 4}, {7, 5, 1, 2}, {999, 1000, 0, 999}, {MAX, 1000, 2147483, 647},
            {MIN, 1000, -2147484, 352}};
        for (int[] n : numbers) {
            beside(0, of(ADD, p(2), NUMBER, n[0], n[0], SPLIT, p(2), n[1], 3, 0),
                    of(ADD, p(2), NUMBER, n[2], n[2], ADD, p(3), NUMBER, 0, n[1] - 1, MAP, p(3), 0, n[3], 0));
        }

        sentence("Terms: terms, SPLIT back 'of Q t a and R t a with the same t and a: t; else J t u a'");
        Run q = withNumber(0, 5);
        q.step(0, NONE);
        q.step(0, NONE, SPLIT, p(0), 3, 1, 0);
        q.step(1, 2, SPLIT, p(0), 3, 1, 0);
        q.due(0, "clash", 0);
        Run other = withNumber(0, 5);
        other.step(0, NONE);
        other.step(0, NONE, SPLIT, p(0), 3, 1, 0, MAP, p(1), 0, 1, 0);
        other.step(1, 2, SPLIT, p(0), 3, 1, 0);
        other.due(1, "clash", 0);
        Run turned = withNumber(0, 3);
        turned.step(0, NONE);
        turned.step(0, NONE, SPLIT, p(0), 2, 1, 0, RENAME, p(0), 5, 0, 0, RENAME, p(1), 0, 0, 0,
                RENAME, p(5), 1, 0, 0);
        turned.step(1, 2, SPLIT, p(0), 2, 1, 0);
        turned.due(1, "clash", 0);
        oneOfTwoNumbers();
    }

    /** The quotient, or the rest, is a number, the other one is not: J, which SPLIT takes apart again. */
    private static void oneOfTwoNumbers() {
        sentence("Terms: terms, SPLIT back 'of two numbers what they make' - not of one alone");
        for (int name : of(0, 1)) {
            Run r = withNumber(0, 1);
            r.does("field", p(1), NUMBER, 0, 2);
            r.step(0, NONE, REMOVE, p(name), 0, 0, 0, ADD, p(name), NUMBER, 0, name + 1);
            r.step(0, NONE);
            r.step(2, NONE, REMOVE, p(0), 0, 0, 0, REMOVE, p(1), 0, 0, 0, ADD, p(0), NUMBER, 0, 5);
            r.step(3, 1, SPLIT, p(0), 3, 1, 0);
            r.step(3, NONE, SPLIT, p(0), 3, 1, 0);
            r.step(0, 4, REMOVE, p(name), 0, 0, 0, ADD, p(name), NUMBER, 0, name + 1);
            r.due(0, "clash", 5);
        }
    }

    private static void eachItsOwnTerm() {
        sentence("Terms: 'the k-th number or list of the schema (from 0, in order) is the term S k'");
        Run r = withNumbers(24);
        r.step(0, NONE);
        r.step(0, 1, RENAME, p(0), 50, 0, 0, RENAME, p(23), 0, 0, 0, RENAME, p(50), 23, 0, 0);
        r.due(1, "clash", 0);
        r.due(1, "clash", 1);
        r.step(0, 1, RENAME, p(0), 50, 0, 0, RENAME, p(50), 0, 0, 0);
        r.due(0, "clash", 2);
        Run lists = withList(0, 9);
        lists.does("field", p(1), LIST, 0, 9);
        lists.step(0, NONE);
        lists.step(0, 1, RENAME, p(0), 50, 0, 0, RENAME, p(1), 0, 0, 0, RENAME, p(50), 1, 0, 0);
        lists.due(1, "clash", 1);
        Run none = new Run();
        none.does("field", p(0), GROUP, 0, 0);
        none.does("field", p(1), GROUP, 0, 0);
        none.step(0, NONE);
        none.step(0, 1, RENAME, p(0), 50, 0, 0, RENAME, p(1), 0, 0, 0, RENAME, p(50), 1, 0, 0);
        none.due(0, "clash", 1);
        none.step(0, 1, REMOVE, p(0), 0, 0, 0, ADD, p(0), GROUP, 0, 0);
        none.due(0, "clash", 2);
        none.step(1, 0, REMOVE, p(1), 0, 0, 0, ADD, p(1), GROUP, 0, 0);
        none.due(0, "clash", 3);
    }

    private static void listTerms() {
        sentence("Terms: terms, SORT forth 'of E, W t and O t itself; else O t'");
        beside(1, of(), of(SORT, p(1), 0, 0, 0));
        beside(0, of(SORT, p(1), 0, 0, 0), of(SORT, p(1), 0, 0, 0, SORT, p(1), 0, 0, 0));
        beside(0, of(WRAP, p(0), 0, 0, 0), of(WRAP, p(0), 0, 0, 0, SORT, p(0), 0, 0, 0));
        beside(0, of(ADD, p(2), LIST, 0, 9), of(ADD, p(2), LIST, 0, 9, SORT, p(2), 0, 0, 0));

        sentence("Terms: terms, WRAP back 'of W t: t; .. else F t'");
        Run w = withNumber(0, 9);
        w.step(0, NONE);
        w.step(0, NONE, WRAP, p(0), 0, 0, 0);
        w.step(1, 2, WRAP, p(0), 0, 0, 0);
        w.due(0, "clash", 0);
        Run f = withList(0, 9);
        f.step(0, NONE, REMOVE, p(0), 0, 0, 0, ADD, p(0), NUMBER, 0, 9);
        f.step(0, NONE);
        f.step(1, 2, WRAP, p(0), 0, 0, 0);
        f.due(1, "clash", 0);
    }

    public static void main(String[] args) {
        toItself();
        fewestSteps();
        theSameWayBack();
        firstOfSeveralSteps();
        longestRoute();
        eachItsOwnTerm();
        wrapRound();
        numbersOfTerms();
        sameFactors();
        splitTerms();
        listTerms();
        finish();
    }
}
