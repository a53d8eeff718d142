import java.util.ArrayList;
import java.util.Arrays;
import java.util.LinkedHashSet;
import java.util.List;
import java.util.Set;

/**
 * What the tests of boundaries share. Each of them goes through sentences of the document that name a
 * boundary: what is refused, or turns, at it, and what is done just inside it. Behind each call that
 * is refused, all that can be seen must be as in a run without that call.
 */
public abstract class Boundaries {
    static final int NONE = LensPaths.NONE;
    static final int MIN = Integer.MIN_VALUE;
    static final int MAX = Integer.MAX_VALUE;
    static final int NUMBER = 0;
    static final int LIST = 1;
    static final int GROUP = 2;
    static final int RENAME = 0;
    static final int ADD = 1;
    static final int REMOVE = 2;
    static final int WRAP = 3;
    static final int LIFT = 4;
    static final int SPLIT = 5;
    static final int SCALE = 6;
    static final int MAP = 7;
    static final int SORT = 8;
    static final String STATE = "IllegalStateException";
    static final String ARGUMENT = "IllegalArgumentException";
    static final String INDEX = "IndexOutOfBoundsException";
    static final String ARITHMETIC = "ArithmeticException";
    static final String UNSUPPORTED = "UnsupportedOperationException";
    /** What an object is used for at most. */
    static final int MAX_CALLS = 512;
    static final int WATCHED = 14;

    private static String sentence;
    private static int sentences;
    private static int wrong;

    // ---- how a sentence is tried ----

    static void sentence(String words) {
        under(words);
        sentences++;
    }

    /** What a fault is told under from now on. */
    static void under(String words) {
        sentence = words;
    }

    static void fault(String what) {
        wrong++;
        System.out.println(sentence + "\n    " + what);
    }

    static void fault(String what, Run run) {
        fault(what);
        if (wrong <= 5) {
            System.out.println("    behind " + run.calls);
        }
    }

    /** A path of names. */
    static int p(int... names) {
        int path = 0;
        for (int i = 0; i < names.length; i++) {
            path |= names[i] + 1 << 7 * i;
        }
        return path;
    }

    private static long call(LensPaths x, String name, int[] n) {
        switch (name) {
            case "field": return x.field(n[0], n[1], n[2], n[3]);
            case "begin": x.begin(n[0]); return 0;
            case "primitive": return x.primitive(n[0], n[1], n[2], n[3], n[4]);
            case "end": return x.end(n[0]);
            case "leave": return x.leave() ? 1 : 0;
            case "about": return x.about(n[0], n[1], n[2]);
            case "count": return x.count(n[0]);
            case "record": return x.record(n[0]);
            case "copy": return x.copy(n[0]);
            case "drop": x.drop(n[0]); return 0;
            case "set": x.set(n[0], n[1], n[2]); return 0;
            case "put": return x.put(n[0], n[1], n[2], n[3]);
            case "cut": x.cut(n[0], n[1], n[2]); return 0;
            case "get": return x.get(n[0], n[1]);
            case "size": return x.size(n[0], n[1]);
            case "item": return x.item(n[0], n[1], n[2]);
            case "version": return x.version(n[0]);
            case "kept": return x.kept(n[0]);
            case "same": return x.same(n[0], n[1]) ? 1 : 0;
            case "translate": return x.translate(n[0], n[1]);
            case "route": return x.route(n[0], n[1], n[2]);
            case "clash": return x.clash(n[0]);
            default: throw new AssertionError(name);
        }
    }

    private static String answer(LensPaths x, Call c) {
        try {
            return "" + call(x, c.name, c.n);
        } catch (RuntimeException e) {
            return e.getClass().getSimpleName();
        }
    }

    /** A call by its name and its numbers. */
    private static final class Call {
        final String name;
        final int[] n;

        Call(String name, int[] n) {
            this.name = name;
            this.n = n;
        }

        /** Where its path stands among its numbers, or -1. */
        private int pathAt() {
            switch (name) {
                case "field": return 0;
                case "primitive": case "about": case "set": case "put": case "cut":
                case "get": case "size": case "item": return 1;
                default: return -1;
            }
        }

        void watch(Set<Integer> paths) {
            if (pathAt() < 0) {
                return;
            }
            int path = n[pathAt()];
            paths.add(path);
            if (name.equals("primitive")) {
                watchWhatComes(path, paths);
            }
        }

        private void watchWhatComes(int path, Set<Integer> paths) {
            int shift = path == 0 ? 0 : (31 - Integer.numberOfLeadingZeros(path)) / 7 * 7;
            int other = n[0] == RENAME ? n[2] : n[0] == SPLIT ? n[3] : -1;
            if (other >= 0 && other < 100) {
                paths.add(path & (1 << shift) - 1 | other + 1 << shift);
            }
            if (n[0] == LIFT && shift > 0) {
                paths.add(path & (1 << shift - 7) - 1 | (path >>> shift) << shift - 7);
            }
        }

        @Override
        public String toString() {
            return name + Arrays.toString(n);
        }
    }

    /** Calls of one object, told so that they can be made once more of another one. */
    static final class Run {
        private final LensPaths x = new LensPaths();
        final List<Call> calls = new ArrayList<>();

        private String ask(Call c) {
            String got = answer(x, c);
            calls.add(c);
            if (calls.size() > MAX_CALLS) {
                fault("more calls than an object is used for", this);
            }
            return got;
        }

        /** The answer that is due. */
        void due(long want, String name, int... n) {
            Call c = new Call(name, n);
            String got = ask(c);
            if (!got.equals("" + want)) {
                fault(c + " answered " + got + ", due is " + want, this);
            }
        }

        /** A call that is not refused, whatever it answers. */
        void does(String name, int... n) {
            Call c = new Call(name, n);
            String got = ask(c);
            if (got.endsWith("Exception")) {
                fault(c + " threw " + got, this);
            }
        }

        /** The exception that is due, and all is as before. */
        void refuses(String exception, String name, int... n) {
            Call c = new Call(name, n);
            String got = ask(c);
            if (!got.equals(exception)) {
                fault(c + " answered " + got + ", due is " + exception, this);
                return;
            }
            String with = look(calls);
            String without = look(calls.subList(0, calls.size() - 1));
            if (!with.equals(without)) {
                fault(c + " threw, but it changed something: " + with + "\n    is not " + without, this);
            }
        }

        private String look(List<Call> made) {
            LensPaths again = new LensPaths();
            for (Call c : made) {
                answer(again, c);
            }
            Set<Integer> paths = new LinkedHashSet<>();
            for (int i = calls.size() - 1; i >= 0 && paths.size() < WATCHED; i--) {
                calls.get(i).watch(paths);
            }
            return new Look(again, paths, MAX_CALLS - calls.size()).all();
        }

        /** Each of these values is refused in the place of the number 'at'. */
        void refusesEach(int[] values, int at, String exception, String name, int... n) {
            for (int value : values) {
                int[] numbers = n.clone();
                numbers[at] = value;
                refuses(exception, name, numbers);
            }
        }

        void step(int from, int to, int... n) {
            does("begin", from);
            for (int i = 0; i < n.length; i += 5) {
                does("primitive", Arrays.copyOfRange(n, i, i + 5));
            }
            does("end", to);
        }

        void list(int h, int path, int... numbers) {
            does("cut", h, path, 0);
            for (int i = 0; i < numbers.length; i++) {
                due(i + 1, "put", h, path, i, numbers[i]);
            }
        }

        void dueList(int h, int path, int... numbers) {
            due(numbers.length, "size", h, path);
            for (int i = 0; i < numbers.length; i++) {
                due(numbers[i], "item", h, path, i);
            }
        }

        void dueField(int version, int path, int sort, int low, int high) {
            due(sort, "about", version, path, 0);
            due(low, "about", version, path, 1);
            due(high, "about", version, path, 2);
        }

        /** A record goes to a version: the number 0 there, and how many things are kept. */
        void dueMove(int h, int version, int value, int kept) {
            does("translate", h, version);
            due(value, "get", h, p(0));
            due(kept, "kept", h);
        }
    }

    /** All that can be seen of an object with the calls that are left, which is used up by it. */
    private static final class Look {
        private final LensPaths x;
        private final Set<Integer> paths;
        private final StringBuilder seen = new StringBuilder();
        private int left;

        Look(LensPaths x, Set<Integer> paths, int left) {
            this.x = x;
            this.paths = paths;
            this.left = left;
        }

        private String ask(String name, int... n) {
            if (left == 0) {
                return "Exception";
            }
            left--;
            Call c = new Call(name, n);
            String got = answer(x, c);
            seen.append(c).append('=').append(got).append(' ');
            return got;
        }

        private boolean answers(String name, int... n) {
            return !ask(name, n).endsWith("Exception");
        }

        String all() {
            for (int what = 0; what < 4; what++) {
                ask("count", what);
            }
            for (int h = 0; h < 16; h++) {
                if (answers("version", h)) {
                    values(h);
                }
            }
            ask("field", p(97), NUMBER, 0, 0);
            draft();
            ask("record", 0);
            moves();
            versions();
            ways();
            return seen.toString();
        }

        private void values(int h) {
            ask("kept", h);
            for (int path : paths) {
                if (!answers("get", h, path)) {
                    String size = ask("size", h, path);
                    for (int i = 0; !size.endsWith("Exception") && i < Integer.parseInt(size); i++) {
                        ask("item", h, path, i);
                    }
                }
            }
        }

        private void draft() {
            boolean ended = answers("end", NONE);
            for (int v = 0; v < 8 && !ended && left > 0 && x.count(3) != NONE; v++) {
                ended = answers("end", v);
            }
            ask("leave");
        }

        private void moves() {
            for (int h = 0; h < 16 && left > 0; h++) {
                for (int v = 0; v < 8 && answers("translate", h, v); v++) {
                    values(h);
                }
            }
        }

        private void versions() {
            for (int v = 0; v < 8 && answers("about", v, 0, 3); v++) {
                for (int path : paths) {
                    for (int what = 0; what < 4; what++) {
                        ask("about", v, path, what);
                    }
                }
            }
        }

        private void ways() {
            for (int s = 0; s < 16 && answers("clash", s); s++) {
                ask("count", 1);
            }
            for (int v = 1; v < 8; v++) {
                for (int k = 0; k < 8 && answers("route", 0, v, k); k++) {
                    ask("count", 0);
                }
            }
        }
    }

    /** Version 0 has the number 0 alone. */
    static Run withNumber(int low, int high) {
        Run r = new Run();
        r.due(1, "field", p(0), NUMBER, low, high);
        return r;
    }

    /** Version 0 has the list 0 alone. */
    static Run withList(int low, int high) {
        Run r = new Run();
        r.due(1, "field", p(0), LIST, low, high);
        return r;
    }

    /** A number 0, a list 1, and records: 2 with 3 in it, that with the number 4 in it; 5 without fields. */
    static Run withEachSort() {
        Run r = new Run();
        r.does("field", p(0), NUMBER, -5, 9);
        r.does("field", p(1), LIST, -5, 9);
        r.does("field", p(2), GROUP, 0, 0);
        r.does("field", p(2, 3), GROUP, 0, 0);
        r.does("field", p(2, 3, 4), NUMBER, 1, 2);
        r.does("field", p(5), GROUP, 0, 0);
        return r;
    }

    /** Version 0 has numbers 0, 1, .. */
    static Run withNumbers(int count) {
        Run r = new Run();
        for (int name = 0; name < count; name++) {
            r.due(name + 1, "field", p(name), NUMBER, 0, 9);
        }
        return r;
    }

    /** Versions 0, 1, .. with a step without primitives from 0 to each. */
    static Run withVersions(int count) {
        Run r = withNumber(0, 9);
        for (int v = 1; v < count; v++) {
            r.does("begin", 0);
            r.due(v, "end", NONE);
        }
        return r;
    }

    /** Two versions, with steps without primitives between them. */
    static Run withSteps(int count) {
        Run r = withVersions(2);
        for (int s = 1; s < count; s++) {
            r.does("begin", 0);
            r.due(1, "end", 1);
        }
        return r;
    }

    static Run withRecords(int count) {
        Run r = withNumber(0, 9);
        for (int h = 0; h < count; h++) {
            r.due(h, "record", 0);
        }
        return r;
    }

    static int[] of(int... n) {
        return n;
    }

    /** Tells what was found, and ends with exit code 1 if an answer was not as due. */
    static void finish() {
        System.out.println(wrong == 0 ? sentences + " sentences hold"
                : wrong + " answers are not as due");
        if (wrong != 0) {
            System.exit(1);
        }
    }
}
