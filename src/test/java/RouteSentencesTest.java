import java.io.IOException;
import java.util.Arrays;

/** A walk through 'Terms', from the route to its end: terms, and what methods throw. */
public final class RouteSentencesTest extends Sentences {

    private static void dueRoute(Run r, int... stops) {
        int from = stops[0];
        int to = stops[stops.length - 1];
        for (int k = 0; k < stops.length; k++) {
            r.due(stops[k], "route", from, to, k);
        }
        r.due(NONE, "route", from, to, stops.length);
    }

    private static void route() {
        says("THE ROUTE from a version to a greater one is the way over the fewest steps");
        Run r = withVersions(2);
        r.step(1, NONE);
        r.step(2, NONE);
        r.step(3, NONE);
        dueRoute(r, 0, 1, 2, 3, 4);
        r.does("record", 0);
        r.due(4, "translate", 0, 4);
        r.step(1, 4);
        dueRoute(r, 0, 1, 4);
        r.due(2, "translate", 0, 0);
        r.step(0, 4);
        dueRoute(r, 0, 4);
        dueRoute(r, 0, 4, 3);
        dueRoute(r, 0, 1, 2);
        r.due(1, "translate", 0, 4);

        says("(each forth or back; none to itself);");
        Run b = withNumber(0, 9);
        b.step(0, NONE, SCALE, p(0), 2, 1, 0);
        b.step(0, NONE, SCALE, p(0), 3, 1, 0);
        b.does("record", 1);
        b.does("set", 0, p(0), 8);
        dueRoute(b, 1, 0, 2);
        b.due(2, "translate", 0, 2);
        b.due(12, "get", 0, p(0));
        for (int v = 0; v < 3; v++) {
            dueRoute(b, v);
        }
        b.due(0, "translate", 0, 2);
        b.due(12, "get", 0, p(0));
    }

    /** Ways 0-1-4-5 and 0-2-3-5, each with a MAP of its own. */
    private static void ofSeveralWays() {
        says("of several the one that has the lesser version where they differ first;");
        Run r = withNumber(0, 9);
        r.step(0, NONE);
        r.step(0, NONE);
        r.step(2, NONE, MAP, p(0), 1, 3, 0);
        r.step(1, NONE, MAP, p(0), 1, 4, 0);
        r.step(3, NONE);
        r.step(4, 5);
        dueRoute(r, 0, 1, 4, 5);
        r.does("record", 0);
        r.does("set", 0, p(0), 1);
        r.due(3, "translate", 0, 5);
        r.due(4, "get", 0, p(0));

        says("of several steps between two versions the first one.");
        Run s = withNumber(0, 9);
        s.step(0, NONE, MAP, p(0), 1, 2, 0);
        s.step(0, 1, MAP, p(0), 1, 3, 0);
        s.step(1, 0, MAP, p(0), 2, 4, 0);
        s.does("record", 0);
        s.does("set", 0, p(0), 1);
        s.dueMove(0, 1, 2, 1);
        s.dueMove(0, 0, 1, 0);
        s.does("set", 0, p(0), 2);
        s.dueMove(0, 1, 2, 0);

        says("From a greater version to a lesser one it is the same way back.");
        dueRoute(r, 5, 4, 1, 0);
        r.due(3, "translate", 0, 0);
        r.due(1, "get", 0, p(0));
        r.due(0, "kept", 0);
        dueRoute(r, 1, 0, 2);
        dueRoute(r, 2, 0, 1);
        dueRoute(r, 4, 1, 0, 2);
    }

    private static Run empty() {
        return new Run();
    }

    /** A number 0 from 0 to 9, and a list 1. */
    private static Run both() {
        Run r = withNumber(0, 9);
        r.does("field", p(1), LIST, 0, 9);
        return r;
    }

    /** What clash tells of two steps beside each other. */
    private static void beside(int due, Run r, int[] one, int[] other) {
        r.step(0, NONE, one);
        r.step(0, 1, other);
        r.due(due, "clash", 0);
        r.due(due, "clash", 1);
    }

    /** What clash tells of a step beside a way over another one forth, and a third one back. */
    private static void round(int due, Run r, int[] one, int[] forth, int[] back) {
        r.step(0, NONE, one);
        r.step(0, NONE, forth);
        r.step(1, 2, back);
        r.due(due, "clash", 0);
    }

    private static int[] exchange(int name, int other) {
        return of(RENAME, p(name), 50, 0, 0, RENAME, p(other), name, 0, 0, RENAME, p(50), other, 0, 0);
    }

    private static int[] behind(int[] first, int... then) {
        int[] all = Arrays.copyOf(first, first.length + then.length);
        System.arraycopy(then, 0, all, first.length, then.length);
        return all;
    }

    private static void terms() {
        says("TERMS. To take TERMS over a step is to do the same with a term for each number and list instead,");
        beside(0, both(), of(RENAME, p(0), 5, 0, 0), of(RENAME, p(0), 6, 0, 0, RENAME, p(6), 5, 0, 0));
        for (int sort : of(NUMBER, LIST)) {
            Run in = new Run();
            in.does("field", p(0), GROUP, 0, 0);
            in.does("field", p(0, 1), sort, 0, 9);
            in.does("field", p(2), sort, 0, 9);
            in.step(0, NONE, LIFT, p(0, 1), 0, 0, 0);
            in.step(0, 1, RENAME, p(2), 1, 0, 0, RENAME, p(0, 1), 2, 0, 0, LIFT, p(0, 2), 0, 0, 0);
            in.due(1, "clash", 0);
            in.step(0, 1, RENAME, p(0), 7, 0, 0, LIFT, p(7, 1), 0, 0, 0, RENAME, p(7), 0, 0, 0);
            in.due(0, "clash", 2);
        }
        beside(1, withNumbers(1), of(REMOVE, p(0), 0, 0, 0, ADD, p(0), NUMBER, 0, 9), of());

        // No way goes over a step twice, so that nothing kept could come of it.
        passes("nothing being kept,");

        says("with these rules, and no others");
        beside(1, both(), of(SCALE, p(0), 2, 1, 0), of(SCALE, p(0), 4, 2, 0));
        beside(1, both(), of(), of(SCALE, p(0), 2, 1, 0, SCALE, p(0), 1, 2, 0));
        beside(1, both(), of(MAP, p(0), 1, 2, 0), of(MAP, p(0), 1, 2, 0, MAP, p(0), 1, 2, 0));
        noneIsAnother();

        says("(as an int: the lowest 32 bits).");
        int[] parts = of(ADD, p(0), NUMBER, -2147484, 2147483, MAP, p(0), 0, 2147483, 0,
                ADD, p(1), NUMBER, 0, 999, MAP, p(1), 0, 650, 0);
        for (int number : of(MIN + 2, MIN + 3, MAX)) {
            round(number == MIN + 2 ? 0 : 1, empty(), of(ADD, p(0), NUMBER, MIN, MAX, MAP, p(0), 0, number, 0),
                    parts, of(SPLIT, p(0), 1000, 1, 0));
        }

        says("At the beginning the k-th number or list of the schema (from 0, in order) is the term S k.");
        Run k = withNumbers(3);
        k.does("field", p(3), LIST, 0, 9);
        k.does("field", p(4), LIST, 0, 9);
        k.step(0, NONE);
        for (int[] two : new int[][] {{0, 1}, {1, 2}, {0, 2}, {3, 4}}) {
            k.step(0, 1, exchange(two[0], two[1]));
        }
        k.step(0, 1, behind(exchange(0, 1), exchange(0, 1)));
        for (int step = 0; step < 6; step++) {
            k.due(step == 5 ? 0 : 1, "clash", step);
        }

        says("Numbers n are terms, and E, the list without numbers.");
        int[] three = of(ADD, p(2), NUMBER, 3, 9);
        beside(0, both(), three, behind(three, REMOVE, p(2), 0, 0, 0, ADD, p(2), NUMBER, 3, 9));
        beside(1, both(), three, behind(three, MAP, p(2), 3, 4, 0));
        int[] none = of(ADD, p(2), LIST, 3, 9);
        beside(0, both(), none, behind(none, REMOVE, p(2), 0, 0, 0, ADD, p(2), LIST, 3, 9));
        beside(1, both(), none, behind(three, WRAP, p(2), 0, 0, 0));
        round(0, withNumbers(1), of(ADD, p(1), NUMBER, 3, 9), of(), of(REMOVE, p(1), 0, 0, 0));
    }

    /** A number that is 0 alone stays so, whatever is done to it; but of its terms SPLIT takes J apart alone. */
    private static void noneIsAnother() {
        beside(1, withNumber(0, 0), of(), of(SPLIT, p(0), 2, 1, 0, REMOVE, p(1), 0, 0, 0,
                SPLIT, p(0), 2, 1, 0, REMOVE, p(1), 0, 0, 0));
        beside(1, withNumber(0, 0), of(), of(SPLIT, p(0), 2, 1, 0, REMOVE, p(0), 0, 0, 0,
                SPLIT, p(1), 2, 2, 0, REMOVE, p(2), 0, 0, 0, RENAME, p(1), 0, 0, 0));
        beside(1, withNumber(0, 0), of(), of(SCALE, p(0), 2, 3, 0, SPLIT, p(0), 2, 1, 0, REMOVE, p(1), 0, 0, 0));
    }

    private static void termsOfWrap() {
        says("WRAP forth: W t.");
        int[] wrap = of(WRAP, p(0), 0, 0, 0);
        int[] list = of(ADD, p(0), LIST, 0, 9);
        beside(0, both(), wrap, wrap);
        beside(1, both(), wrap, of(REMOVE, p(0), 0, 0, 0, ADD, p(0), LIST, 0, 9));
        beside(1, both(), wrap, of(MAP, p(0), 1, 2, 0, WRAP, p(0), 0, 0, 0));

        says("WRAP back: of W t: t;");
        round(0, withNumber(0, 9), of(), wrap, wrap);
        round(0, withNumber(0, 9), of(MAP, p(0), 1, 2, 0), of(MAP, p(0), 1, 2, 0, WRAP, p(0), 0, 0, 0), wrap);
        round(1, withNumber(0, 9), of(), of(MAP, p(0), 1, 2, 0, WRAP, p(0), 0, 0, 0), wrap);
        round(0, withNumbers(2), of(), of(WRAP, p(1), 0, 0, 0), of(WRAP, p(1), 0, 0, 0));

        says("of E: the default;");
        round(0, empty(), of(ADD, p(0), NUMBER, 0, 9), list, wrap);
        round(1, empty(), of(ADD, p(0), NUMBER, 0, 9, MAP, p(0), 0, 1, 0), list, wrap);
        round(0, empty(), of(ADD, p(0), NUMBER, -9, -4), of(ADD, p(0), LIST, -9, -4), wrap);
        round(0, withNumbers(1), of(ADD, p(1), NUMBER, 3, 9), of(ADD, p(1), LIST, 3, 9), of(WRAP, p(1), 0, 0, 0));

        says("else F t.");
        round(1, withList(0, 9), of(REMOVE, p(0), 0, 0, 0, ADD, p(0), NUMBER, 0, 9), of(), wrap);
        round(1, withList(0, 9), of(REMOVE, p(0), 0, 0, 0, ADD, p(0), NUMBER, 0, 9), of(SORT, p(0), 0, 0, 0), wrap);
    }

    private static void termsOfSplit() {
        says("SPLIT forth: of a number its quotient and rest;");
        int[] split = of(ADD, p(0), NUMBER, -7, -7, SPLIT, p(0), 5, 1, 0);
        int[] parts = of(ADD, p(0), NUMBER, -2, -2, ADD, p(1), NUMBER, 0, 4);
        beside(0, empty(), split, behind(parts, MAP, p(1), 0, 3, 0));
        beside(1, empty(), split, behind(parts, MAP, p(1), 0, 2, 0));

        says("of J t u a with the same a: t and u;");
        splitForthOfJ(3, 0);
        Run j = withNumber(0, 19);
        j.step(0, NONE, SPLIT, p(0), 5, 1, 0);
        j.step(1, NONE);
        j.step(0, 2, SPLIT, p(0), 5, 1, 0);
        j.due(0, "clash", 1);
        Run later = withNumber(0, 19);
        later.step(0, NONE, SPLIT, p(0), 5, 1, 0);
        later.step(1, NONE);
        later.step(0, 2, ADD, p(7), GROUP, 0, 0, REMOVE, p(7), 0, 0, 0, SPLIT, p(0), 5, 1, 0);
        later.due(0, "clash", 1);

        says("else Q t a and R t a.");
        splitForthOfJ(2, 1);
        splitForthOfJ(4, 1);
        beside(0, withNumber(0, 3), of(SPLIT, p(0), 2, 1, 0), of(SPLIT, p(0), 2, 2, 0, RENAME, p(2), 1, 0, 0));
        beside(1, withNumber(0, 3), of(SPLIT, p(0), 2, 1, 0), behind(of(SPLIT, p(0), 2, 1, 0), exchange(0, 1)));
        beside(1, withNumber(0, 1), of(SPLIT, p(0), 2, 1, 0, REMOVE, p(1), 0, 0, 0),
                of(SPLIT, p(0), 3, 1, 0, REMOVE, p(1), 0, 0, 0));
        beside(1, withNumbers(2), of(SPLIT, p(0), 2, 2, 0, SPLIT, p(1), 2, 3, 0),
                of(SPLIT, p(0), 2, 3, 0, SPLIT, p(1), 2, 2, 0));

        says("SPLIT back: of two numbers what they make (whatever bounds, as an int);");
        int[] two = of(ADD, p(0), NUMBER, 1, 2, ADD, p(1), NUMBER, 0, 4, MAP, p(1), 0, 3, 0);
        int[] back = of(SPLIT, p(0), 5, 1, 0);
        round(0, empty(), of(ADD, p(0), NUMBER, 8, 10), two, back);
        round(1, empty(), of(ADD, p(0), NUMBER, 9, 10), two, back);
        round(1, empty(), of(ADD, p(0), NUMBER, 7, 10), two, back);
        beyondItsBounds(4, 0);
        beyondItsBounds(5, 1);

        says("of Q t a and R t a with the same t and a: t;");
        int[] by7 = of(SPLIT, p(0), 7, 5, 0);
        round(0, withNumber(-20, 30), of(), by7, by7);
        round(0, withNumber(-20, 30), of(MAP, p(0), 1, 2, 0), behind(of(MAP, p(0), 1, 2, 0), by7), by7);
        round(1, withNumber(-20, 30), of(), behind(of(MAP, p(0), 1, 2, 0), by7), by7);

        says("else J t u a.");
        int[] twice = of(SPLIT, p(0), 2, 5, 0, SPLIT, p(1), 2, 6, 0);
        round(0, withNumbers(2), of(), twice, twice);
        round(1, withNumbers(2), of(), behind(twice, exchange(5, 6)), twice);
        round(1, withNumber(0, 9), of(), of(SPLIT, p(0), 2, 1, 0, MAP, p(1), 0, 1, 0), of(SPLIT, p(0), 2, 1, 0));
        round(1, withNumber(0, 3), of(), behind(of(SPLIT, p(0), 2, 1, 0), exchange(0, 1)), of(SPLIT, p(0), 2, 1, 0));
        oneNumberAlone(0);
        oneNumberAlone(1);
    }

    /** The quotient, or the rest, is a number, the other one is not: SPLIT back and forth leads to them again. */
    private static void oneNumberAlone(int name) {
        Run r = withNumber(0, 1);
        r.does("field", p(1), NUMBER, 0, 2);
        r.step(0, NONE, REMOVE, p(name), 0, 0, 0, ADD, p(name), NUMBER, 0, name + 1);
        r.step(0, NONE);
        r.step(2, NONE, REMOVE, p(0), 0, 0, 0, REMOVE, p(1), 0, 0, 0, ADD, p(0), NUMBER, 0, 5);
        r.step(3, 1, SPLIT, p(0), 3, 1, 0);
        r.step(3, NONE, SPLIT, p(0), 3, 1, 0);
        r.step(0, 4, REMOVE, p(name), 0, 0, 0, ADD, p(name), NUMBER, 0, name + 1);
        r.due(0, "clash", 5);
    }

    /** Back over SPLIT by 3, then forth over SPLIT by a base, of which the quotient stays. */
    private static void splitForthOfJ(int base, int due) {
        Run r = withNumber(0, 1);
        r.step(0, NONE, SPLIT, p(0), 3, 1, 0);
        r.step(0, NONE, SPLIT, p(0), base, 1, 0, REMOVE, p(1), 0, 0, 0);
        r.step(1, 2, REMOVE, p(1), 0, 0, 0);
        r.due(due, "clash", 2);
    }

    /** The way to version 3 goes back over REMOVE and SPLIT: 1 and 0 make 4, where 5 alone is in the bounds. */
    private static void beyondItsBounds(int number, int due) {
        Run r = withNumber(5, 5);
        r.step(0, NONE, SPLIT, p(0), 4, 1, 0);
        r.step(1, NONE, REMOVE, p(0), 0, 0, 0, REMOVE, p(1), 0, 0, 0);
        r.step(0, NONE, SPLIT, p(0), 1000, 1, 0, REMOVE, p(0), 0, 0, 0);
        r.step(2, 3, ADD, p(1), NUMBER, 0, 999, MAP, p(1), 0, number, 0);
        r.due(due, "clash", 3);
    }

    private static void termsOfScale() {
        says("SCALE forth: t itself if a is b;");
        beside(0, both(), of(), of(SCALE, p(0), 7, 7, 0));
        beside(0, withNumbers(2), of(), of(SCALE, p(1), 7, 7, 0));

        says("of a number what comes of it (as an int);");
        beside(0, empty(), of(ADD, p(0), NUMBER, 7, 7, SCALE, p(0), 3, 2, 0), of(ADD, p(0), NUMBER, 10, 10));
        beside(0, empty(), of(ADD, p(0), NUMBER, -7, -7, SCALE, p(0), 3, 2, 0), of(ADD, p(0), NUMBER, -11, -11));
        beside(1, empty(), of(ADD, p(0), NUMBER, 6, 8, SCALE, p(0), 1, 2, 0),
                of(ADD, p(0), NUMBER, 3, 4, MAP, p(0), 3, 4, 0));
        beside(0, withNumbers(1), of(ADD, p(1), NUMBER, 7, 7, SCALE, p(1), 3, 2, 0), of(ADD, p(1), NUMBER, 10, 10));
        scaledAsAnInt();

        says("else M t a b;");
        beside(0, both(), of(SCALE, p(0), 2, 3, 0), of(SCALE, p(0), 2, 3, 0));
        beside(1, both(), of(SCALE, p(0), 1, 1000, 0), of(SCALE, p(0), 2, 1000, 0));
        beside(1, both(), of(SCALE, p(0), 1, 999, 0), of(SCALE, p(0), 1, 1000, 0));
        beside(1, withNumber(0, 0), of(), of(SCALE, p(0), 1, 2, 0));
        int[] halves = of(SCALE, p(0), 1, 2, 0, SCALE, p(1), 1, 2, 0);
        beside(1, withNumbers(2), halves, behind(halves, exchange(0, 1)));

        says("back: t itself if a is b;");
        round(0, withNumber(0, 9), of(), of(), of(SCALE, p(0), 7, 7, 0));
        round(0, withNumbers(2), of(), of(), of(SCALE, p(1), 7, 7, 0));

        says("of a number what comes of it;");
        int[] third = of(SCALE, p(0), 1, 3, 0);
        int[] twoOrThree = of(ADD, p(0), NUMBER, 2, 3);
        round(0, empty(), of(ADD, p(0), NUMBER, 6, 11), twoOrThree, third);
        round(0, empty(), of(ADD, p(0), NUMBER, 7, 11), twoOrThree, third);
        round(0, empty(), of(ADD, p(0), NUMBER, 7, 11, MAP, p(0), 7, 9, 0), behind(twoOrThree, MAP, p(0), 2, 3, 0), third);
        round(1, empty(), of(ADD, p(0), NUMBER, 7, 11), behind(twoOrThree, MAP, p(0), 2, 3, 0), third);
        round(0, withNumbers(1), of(ADD, p(1), NUMBER, 6, 11), of(ADD, p(1), NUMBER, 2, 3), of(SCALE, p(1), 1, 3, 0));

        says("else B t a b low high with the bounds before.");
        round(1, withNumber(0, 9), of(), of(SCALE, p(0), 2, 1, 0), of(SCALE, p(0), 2, 1, 0));
        round(1, withNumber(0, 0), of(), of(), of(SCALE, p(0), 2, 1, 0));
        round(1, withNumber(0, 0), of(SCALE, p(0), 2, 1, 0), of(), of(SCALE, p(0), 2, 1, 0));
        notP();
    }

    /**
     * The way from version 0 to 6, over 1, 5 and 4, makes M of B of S 0, with the bounds 0 and 0; step 7 makes
     * M of P of S 0, with the same numbers.
     */
    private static void notP() {
        Run r = withNumber(0, 2);
        r.step(0, NONE, SPLIT, p(0), 5, 1, 0);
        r.step(0, NONE);
        r.step(2, NONE);
        r.step(3, NONE, SCALE, p(0), 1, 3, 0);
        r.step(4, NONE, SCALE, p(0), 1, 2, 0);
        r.step(5, 1, SPLIT, p(0), 5, 1, 0);
        r.step(4, NONE, SCALE, p(0), 1, 3, 0);
        dueRoute(r, 0, 1, 5, 4, 6);
        r.step(0, 6, MAP, p(0), 1, 2, 0, SCALE, p(0), 1, 3, 0);
        r.due(1, "clash", 7);
    }

    /**
     * Back over SPLIT 2147 and 998 make 2147998, beyond the bounds; 1000 times that is no int. Its rest by 7
     * tells it from its lowest 32 bits.
     */
    private static void scaledAsAnInt() {
        long product = 2147998000L;
        for (int rest : of((int) Math.floorMod(product, 7L), Math.floorMod((int) product, 7))) {
            Run r = new Run();
            r.step(0, NONE, ADD, p(0), NUMBER, -2148, 2147, MAP, p(0), 0, 2147, 0,
                    ADD, p(1), NUMBER, 0, 999, MAP, p(1), 0, 998, 0);
            r.step(0, NONE);
            r.step(2, NONE, ADD, p(0), NUMBER, -2147483, 2147483);
            r.step(3, 1, SPLIT, p(0), 1000, 1, 0);
            r.step(3, NONE, SCALE, p(0), 1000, 1, 0, SPLIT, p(0), 7, 1, 0, REMOVE, p(0), 0, 0, 0);
            r.step(0, 4, ADD, p(1), NUMBER, 0, 6, MAP, p(1), 0, rest, 0);
            r.due(rest == Math.floorMod((int) product, 7) ? 0 : 1, "clash", 5);
        }
    }

    private static void termsOfMapAndSort() {
        says("MAP forth: of a number what comes of it;");
        int[] zero = of(ADD, p(0), NUMBER, 0, 9);
        beside(0, empty(), behind(zero, MAP, p(0), 0, 4, 0), behind(zero, MAP, p(0), 0, 7, 0, MAP, p(0), 7, 4, 0));
        beside(0, empty(), zero, behind(zero, MAP, p(0), 5, 6, 0));
        beside(1, empty(), zero, behind(zero, MAP, p(0), 0, 6, 0));

        says("else P t a b.");
        beside(0, both(), of(MAP, p(0), 1, 2, 0), of(MAP, p(0), 1, 2, 0));
        beside(1, both(), of(MAP, p(0), 1, 2, 0), of(MAP, p(0), 1, 3, 0));
        beside(1, both(), of(MAP, p(0), 1, 2, 0), of(MAP, p(0), 3, 2, 0));
        beside(1, both(), of(MAP, p(0), 1, 2, 0), of());
        int[] maps = of(MAP, p(0), 1, 2, 0, MAP, p(1), 1, 2, 0);
        beside(1, withNumbers(2), maps, behind(maps, exchange(0, 1)));

        says("SORT forth: of E, W t and O t itself;");
        int[] list = of(ADD, p(2), LIST, 0, 9);
        beside(0, both(), list, behind(list, SORT, p(2), 0, 0, 0));
        beside(0, both(), of(WRAP, p(0), 0, 0, 0), of(WRAP, p(0), 0, 0, 0, SORT, p(0), 0, 0, 0));
        beside(0, both(), of(SORT, p(1), 0, 0, 0), of(SORT, p(1), 0, 0, 0, SORT, p(1), 0, 0, 0));

        says("else O t.");
        beside(1, both(), of(), of(SORT, p(1), 0, 0, 0));
        Run lists = withList(0, 9);
        lists.does("field", p(1), LIST, 0, 9);
        int[] sorts = of(SORT, p(0), 0, 0, 0, SORT, p(1), 0, 0, 0);
        beside(1, lists, sorts, behind(sorts, exchange(0, 1)));

        says("MAP and SORT back: itself.");
        round(0, both(), of(), of(), of(MAP, p(0), 1, 2, 0, SORT, p(1), 0, 0, 0));
        round(0, both(), of(SORT, p(1), 0, 0, 0), of(SORT, p(1), 0, 0, 0), of(MAP, p(0), 1, 2, 0));
        round(0, empty(), of(ADD, p(0), NUMBER, 0, 9, MAP, p(0), 0, 1, 0), of(ADD, p(0), NUMBER, 0, 9, MAP, p(0), 0, 1, 0),
                of(MAP, p(0), 1, 2, 0));
    }

    /** Versions, records and a step under way; record 0 has 1 and 3, which make 7, beyond the bounds before SPLIT. */
    private static Run full() {
        Run r = withNumber(0, 5);
        r.step(0, NONE, SPLIT, p(0), 4, 1, 0);
        r.step(1, NONE, WRAP, p(0), 0, 0, 0);
        r.does("record", 1);
        r.does("set", 0, p(0), 1);
        r.does("set", 0, p(1), 3);
        r.does("record", 2);
        r.list(1, p(0), 1, 0);
        r.does("translate", 1, 0);
        r.does("begin", 1);
        r.does("primitive", REMOVE, p(1), 0, 0, 0);
        return r;
    }

    private static void exceptions() {
        says("Methods throw what their comments name, the one named first when several would do.");
        Run r = full();
        r.refuses(STATE, "field", p(0), 7, 1, 0);
        r.refuses(INDEX, "begin", 7);
        r.refuses(INDEX, "end", 7);
        r.refuses(ARGUMENT, "end", 1);
        r.refuses(INDEX, "about", 7, 0, 7);
        r.refuses(INDEX, "set", 7, p(0), 10);
        r.refuses(INDEX, "put", 7, p(0), 7, 10);
        r.refuses(INDEX, "cut", 7, p(0), 7);
        r.refuses(INDEX, "get", 7, p(7));
        r.refuses(INDEX, "size", 7, p(7));
        r.refuses(INDEX, "item", 7, p(7), 7);
        r.due(1, "leave");
        r.refuses(STATE, "primitive", 9, p(7), 0, 0, 0);
        r.refuses(STATE, "end", 7);
        Run most = withSteps(16);
        most.does("begin", 0);
        most.refuses(ARGUMENT, "end", 0);
        Run records = withRecords(16);
        records.refuses(INDEX, "record", 1);
        records.refuses(INDEX, "copy", 16);

        says("IndexOutOfBoundsException: there is no such version, step or handle (of several arguments any).");
        for (int none : of(-2, 7, 16, MIN, MAX)) {
            Run n = full();
            n.refusesEach(of(none), 0, INDEX, "end", 0);
            n.refusesEach(of(none), 0, INDEX, "clash", 0);
            n.refusesEach(of(none), 0, INDEX, "record", 0);
            n.refusesEach(of(none), 0, INDEX, "drop", 0);
            n.refusesEach(of(none), 0, INDEX, "kept", 0);
            for (int at : of(0, 1)) {
                n.refusesEach(of(none), at, INDEX, "route", 0, 0, 0);
                n.refusesEach(of(none), at, INDEX, "translate", 0, 0);
                n.refusesEach(of(none), at, INDEX, "same", 0, 0);
            }
            n.refuses(INDEX, "route", none, none, 0);
            n.refuses(INDEX, "translate", none, none);
            n.refuses(INDEX, "same", none, none);
        }

        says("A call that throws changes nothing.");
        Run all = full();
        all.refuses(STATE, "field", p(3), NUMBER, 0, 9);
        all.refuses(STATE, "begin", 0);
        all.refuses(ARGUMENT, "primitive", SPLIT, p(0), 1001, 1, 0);
        all.refuses(ARGUMENT, "primitive", RENAME, p(0), 100, 0, 0);
        all.refuses(ARGUMENT, "end", 2);
        all.refuses(ARGUMENT, "count", 4);
        all.refuses(ARGUMENT, "set", 0, p(1), 4);
        all.refuses(ARGUMENT, "put", 1, p(0), 0, 1);
        all.refuses(ARITHMETIC, "translate", 0, 0);
        all.refuses(INDEX, "translate", 1, 3);
    }

    public static void main(String[] args) throws IOException {
        route();
        ofSeveralWays();
        terms();
        termsOfWrap();
        termsOfSplit();
        termsOfScale();
        termsOfMapAndSort();
        exceptions();
        finishWalk("THE ROUTE from", "## Promise 1");
    }
}
