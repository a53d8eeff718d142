import java.util.ArrayList;
import java.util.Arrays;
import java.util.Collections;
import java.util.HashMap;
import java.util.List;
import java.util.Map;
import java.util.Random;
import java.util.TreeMap;

/**
 * Many runs of calls, each made of LensPaths and of a plain program written from the document with
 * trees, maps and written-out terms instead of slots and tables; their answers must be the same.
 */
public final class ModelTest {

    // ---- the plain program ----

    /** A field of a schema, of a record (with a value) or of a schema's terms (with a term). */
    static final class Node {
        int sort;
        int low;
        int high;
        TreeMap<Integer, Node> kids = new TreeMap<>();
        List<Integer> value = new ArrayList<>();
        Term term;

        Node(int sort, int low, int high) {
            this.sort = sort;
            this.low = sort == 2 ? 0 : low;
            this.high = sort == 2 ? 0 : high;
        }

        Node deepCopy() {
            Node made = new Node(sort, low, high);
            made.value = new ArrayList<>(value);
            made.term = term;
            for (Map.Entry<Integer, Node> e : kids.entrySet()) {
                made.kids.put(e.getKey(), e.getValue().deepCopy());
            }
            return made;
        }

        int inside() {
            int n = 0;
            for (Node kid : kids.values()) {
                n += 1 + kid.inside();
            }
            return n;
        }

        String shape() {
            StringBuilder s = new StringBuilder("(" + sort + "," + low + "," + high);
            for (Map.Entry<Integer, Node> e : kids.entrySet()) {
                s.append(" ").append(e.getKey()).append(e.getValue().shape());
            }
            return s.append(")").toString();
        }

        String content() {
            StringBuilder s = new StringBuilder(value.toString());
            for (Node kid : kids.values()) {
                s.append(kid.content());
            }
            return s.toString();
        }

        String terms() {
            StringBuilder s = new StringBuilder(term == null ? "-" : term.text);
            for (Node kid : kids.values()) {
                s.append(" ; ").append(kid.terms());
            }
            return s.toString();
        }

        int nearest() {
            return low > 0 ? low : high < 0 ? high : 0;
        }

        void makeDefault() {
            value = new ArrayList<>();
            if (sort == 0) {
                value.add(nearest());
            }
            for (Node kid : kids.values()) {
                kid.makeDefault();
            }
        }

        int giveS(int k) {
            if (sort != 2) {
                term = new Term("S", null, null, k);
                return k + 1;
            }
            int next = k;
            for (Node kid : kids.values()) {
                next = kid.giveS(next);
            }
            return next;
        }
    }

    static final class Term {
        final String op;
        final Term t;
        final Term u;
        final int[] numbers;
        final String text;

        Term(String op, Term t, Term u, int... numbers) {
            this.op = op;
            this.t = t;
            this.u = u;
            this.numbers = numbers;
            this.text = op + (t == null ? "" : "(" + t.text + ")") + (u == null ? "" : "(" + u.text + ")")
                    + Arrays.toString(numbers);
        }

        boolean is(String name) {
            return op.equals(name);
        }
    }

    static Term number(int n) {
        return new Term("n", null, null, n);
    }

    static final class Prim {
        int kind;
        int[] names;
        int a;
        int b;
        int c;
        Node before;
    }

    static final class Way {
        int from;
        int to;
        List<Prim> prims = new ArrayList<>();
        List<int[]> asked = new ArrayList<>();
    }

    static final class Keep {
        boolean forth;
        List<Integer> was;
        List<Integer> came;
    }

    static final class Rec {
        int version;
        Node root;
        Map<String, Keep> kept = new HashMap<>();
    }

    static final class Cannot extends RuntimeException {
        private static final long serialVersionUID = 1L;
    }

    static final class Model {
        List<Node> versions = new ArrayList<>();
        List<Way> steps = new ArrayList<>();
        Way open;
        Node shape;
        Rec[] recs = new Rec[16];
        boolean begun;

        Model() {
            versions.add(new Node(2, 0, 0));
        }

        static int[] names(int path) {
            List<Integer> list = new ArrayList<>();
            long rest = path & 0xffffffffL;
            while (rest != 0) {
                int part = (int) (rest % 128);
                if (part < 1 || part > 100) {
                    return null;
                }
                list.add(part - 1);
                rest /= 128;
            }
            if (list.size() > 4) {
                return null;
            }
            int[] made = new int[list.size()];
            for (int i = 0; i < made.length; i++) {
                made[i] = list.get(i);
            }
            return made;
        }

        static Node at(Node root, int[] names, int length) {
            Node now = root;
            for (int i = 0; i < length && now != null; i++) {
                now = now.kids.get(names[i]);
            }
            return now;
        }

        static Node at(Node root, int[] names) {
            return names == null ? null : at(root, names, names.length);
        }

        static boolean room(Node root, int[] names) {
            if (names == null || names.length == 0) {
                return false;
            }
            Node in = at(root, names, names.length - 1);
            return in != null && in.sort == 2 && !in.kids.containsKey(names[names.length - 1]);
        }

        static boolean sortFits(int sort, int low, int high) {
            return sort == 2 || sort >= 0 && sort < 2 && low <= high;
        }

        int field(int path, int sort, int low, int high) {
            Node root = versions.get(0);
            if (begun || root.inside() >= 24) {
                throw new IllegalStateException();
            }
            int[] names = names(path);
            if (!room(root, names) || !sortFits(sort, low, high)) {
                throw new IllegalArgumentException();
            }
            at(root, names, names.length - 1).kids.put(names[names.length - 1], new Node(sort, low, high));
            return root.inside();
        }

        void version(boolean is) {
            if (!is) {
                throw new IndexOutOfBoundsException();
            }
        }

        void begin(int from) {
            version(from >= 0 && from < versions.size());
            if (open != null) {
                throw new IllegalStateException();
            }
            begun = true;
            open = new Way();
            open.from = from;
            shape = versions.get(from).deepCopy();
        }

        int primitive(int kind, int path, int a, int b, int c) {
            if (open == null || open.prims.size() == 8) {
                throw new IllegalStateException();
            }
            Prim p = new Prim();
            p.kind = kind;
            p.names = names(path);
            p.a = a;
            p.b = b;
            p.c = c;
            p.before = shape.deepCopy();
            if (!can(p) ) {
                throw new IllegalArgumentException();
            }
            forth(shape, p, null, null, false);
            open.prims.add(p);
            open.asked.add(new int[] {kind, path, a, b, c});
            return open.prims.size();
        }

        boolean can(Prim p) {
            int[] names = p.names;
            if (p.kind == 1) {
                return shape.inside() < 24 && room(shape, names) && sortFits(p.a, p.b, p.c);
            }
            Node f = at(shape, names);
            if (f == null || names.length == 0) {
                return false;
            }
            Node in = at(shape, names, names.length - 1);
            switch (p.kind) {
                case 0:
                    return p.a >= 0 && p.a <= 99 && !in.kids.containsKey(p.a);
                case 2:
                    return f.kids.isEmpty();
                case 3:
                    return f.sort == 0;
                case 4:
                    return names.length > 1
                            && !at(shape, names, names.length - 2).kids.containsKey(names[names.length - 1]);
                case 5:
                    return f.sort == 0 && p.a >= 2 && p.a <= 1000 && p.b >= 0 && p.b <= 99
                            && !in.kids.containsKey(p.b) && shape.inside() < 24;
                case 6:
                    return f.sort == 0 && p.a >= 1 && p.a <= 1000 && p.b >= 1 && p.b <= 1000
                            && fits(quotient(1L * p.a * f.low, p.b)) && fits(quotient(1L * p.a * f.high, p.b));
                case 7:
                    return f.sort == 0 && p.a != p.b && Math.min(p.a, p.b) >= f.low && Math.max(p.a, p.b) <= f.high;
                case 8:
                    return f.sort == 1;
                default:
                    return false;
            }
        }

        static boolean fits(long n) {
            return n >= Integer.MIN_VALUE && n <= Integer.MAX_VALUE;
        }

        static long quotient(long n, long d) {
            long q = n / d;
            return q * d > n ? q - 1 : q;
        }

        static int last(int[] names) {
            return names[names.length - 1];
        }

        /** rec null and terms false: the schema alone. */
        void forth(Node root, Prim p, Rec rec, String place, boolean terms) {
            Node in = at(root, p.names, p.names.length - 1);
            Node f = in.kids.get(last(p.names));
            Keep keep = rec == null ? null : rec.kept.remove(place);
            switch (p.kind) {
                case 0:
                    in.kids.remove(last(p.names));
                    in.kids.put(p.a, f);
                    break;
                case 1:
                    in.kids.put(last(p.names), come(p.a, p.b, p.c, keep));
                    break;
                case 2:
                    in.kids.remove(last(p.names));
                    go(f, rec, place, true);
                    break;
                case 3:
                    if (rec != null) {
                        wrap(f, keep);
                    }
                    if (terms) {
                        f.term = new Term("W", f.term, null);
                    }
                    f.sort = 1;
                    break;
                case 4:
                    in.kids.remove(last(p.names));
                    at(root, p.names, p.names.length - 2).kids.put(last(p.names), f);
                    break;
                case 5: {
                    Node rest = new Node(0, 0, p.a - 1);
                    in.kids.put(p.b, rest);
                    f.low = (int) quotient(f.low, p.a);
                    f.high = (int) quotient(f.high, p.a);
                    if (rec != null) {
                        int x = f.value.get(0);
                        f.value.set(0, (int) quotient(x, p.a));
                        rest.value.add((int) (x - quotient(x, p.a) * p.a));
                    }
                    if (terms) {
                        splitTerm(f, rest, p.a);
                    }
                    break;
                }
                case 6:
                    change(f, p, rec, place, keep, true);
                    if (terms && p.a != p.b) {
                        f.term = f.term.is("n") ? number((int) quotient(1L * p.a * f.term.numbers[0], p.b))
                                : new Term("M", f.term, null, p.a, p.b);
                    }
                    f.low = (int) quotient(1L * p.a * f.low, p.b);
                    f.high = (int) quotient(1L * p.a * f.high, p.b);
                    break;
                case 7:
                    change(f, p, rec, place, keep, true);
                    if (terms) {
                        f.term = !f.term.is("n") ? new Term("P", f.term, null, p.a, p.b)
                                : f.term.numbers[0] == p.a ? number(p.b) : f.term;
                    }
                    break;
                default:
                    change(f, p, rec, place, keep, true);
                    if (terms && !f.term.is("E") && !f.term.is("W") && !f.term.is("O")) {
                        f.term = new Term("O", f.term, null);
                    }
            }
        }

        void back(Node root, Prim p, Rec rec, String place, boolean terms) {
            Keep keep = rec == null ? null : rec.kept.remove(place);
            Node in = at(root, p.names, p.names.length - 1);
            Node old = at(p.before, p.names);
            Node f = in.kids.get(last(p.names));
            switch (p.kind) {
                case 0:
                    in.kids.put(last(p.names), in.kids.remove(p.a));
                    break;
                case 1:
                    in.kids.remove(last(p.names));
                    go(f, rec, place, false);
                    break;
                case 2:
                    in.kids.put(last(p.names), come(old.sort, old.low, old.high, keep));
                    break;
                case 3:
                    f.sort = 0;
                    if (rec != null) {
                        unwrap(f, rec, place);
                    }
                    if (terms) {
                        f.term = f.term.is("W") ? f.term.t : f.term.is("E") ? number(f.nearest())
                                : new Term("F", f.term, null);
                    }
                    break;
                case 4:
                    in.kids.put(last(p.names), at(root, p.names, p.names.length - 2).kids.remove(last(p.names)));
                    break;
                case 5: {
                    Node rest = in.kids.remove(p.b);
                    f.low = old.low;
                    f.high = old.high;
                    if (rec != null) {
                        long x = 1L * f.value.get(0) * p.a + rest.value.get(0);
                        if (x < f.low || x > f.high) {
                            throw new Cannot();
                        }
                        f.value.set(0, (int) x);
                    }
                    if (terms) {
                        f.term = joinTerm(f.term, rest.term, p.a);
                    }
                    break;
                }
                case 6:
                    f.low = old.low;
                    f.high = old.high;
                    change(f, p, rec, place, keep, false);
                    if (terms && p.a != p.b) {
                        f.term = f.term.is("n") ? number(unscale(f.term.numbers[0], p))
                                : new Term("B", f.term, null, p.a, p.b, old.low, old.high);
                    }
                    break;
                default:
                    change(f, p, rec, place, keep, false);
            }
        }

        static Node come(int sort, int low, int high, Keep keep) {
            Node made = new Node(sort, low, high);
            made.makeDefault();
            if (sort != 2) {
                made.term = sort == 0 ? number(made.nearest()) : new Term("E", null, null);
            }
            if (keep != null) {
                made.value = new ArrayList<>(keep.was);
            }
            return made;
        }

        static void keep(Rec rec, String place, boolean forth, List<Integer> was, List<Integer> came) {
            Keep k = new Keep();
            k.forth = forth;
            k.was = new ArrayList<>(was);
            k.came = came == null ? null : new ArrayList<>(came);
            rec.kept.put(place, k);
        }

        static void go(Node f, Rec rec, String place, boolean forth) {
            boolean plain = f.sort == 0 ? rec != null && f.value.get(0) == f.nearest() : f.value.isEmpty();
            if (rec != null && !plain) {
                keep(rec, place, forth, f.value, null);
            }
        }

        static void wrap(Node f, Keep keep) {
            int x = f.value.get(0);
            if (keep == null) {
                return;
            }
            if (keep.was.isEmpty()) {
                if (x == f.nearest()) {
                    f.value.clear();
                }
                return;
            }
            f.value = new ArrayList<>(keep.was);
            f.value.set(0, x);
        }

        static void unwrap(Node f, Rec rec, String place) {
            if (f.value.size() != 1) {
                keep(rec, place, false, f.value, null);
            }
            f.value = new ArrayList<>(List.of(f.value.isEmpty() ? f.nearest() : f.value.get(0)));
        }

        static int unscale(int y, Prim p) {
            Node old = at(p.before, p.names);
            long x = quotient(1L * p.b * y, p.a);
            return x < old.low ? old.low : x > old.high ? old.high : (int) x;
        }

        static List<Integer> comes(List<Integer> was, Prim p, boolean forth) {
            List<Integer> made = new ArrayList<>(was);
            if (p.kind == 6) {
                made.set(0, forth ? (int) quotient(1L * p.a * was.get(0), p.b) : unscale(was.get(0), p));
            } else if (p.kind == 7 && forth && was.get(0) == p.a) {
                made.set(0, p.b);
            } else if (p.kind == 8 && forth) {
                Collections.sort(made);
            }
            return made;
        }

        static void change(Node f, Prim p, Rec rec, String place, Keep keep, boolean forth) {
            if (rec == null) {
                return;
            }
            if (keep != null && keep.forth != forth && keep.came.equals(f.value)) {
                f.value = new ArrayList<>(keep.was);
                return;
            }
            List<Integer> made = comes(f.value, p, forth);
            if (!comes(made, p, !forth).equals(f.value)) {
                keep(rec, place, forth, f.value, made);
            }
            f.value = made;
        }

        static void splitTerm(Node f, Node rest, int base) {
            Term t = f.term;
            if (t.is("n")) {
                int q = (int) quotient(t.numbers[0], base);
                f.term = number(q);
                rest.term = number(t.numbers[0] - q * base);
            } else if (t.is("J") && t.numbers[0] == base) {
                f.term = t.t;
                rest.term = t.u;
            } else {
                f.term = new Term("Q", t, null, base);
                rest.term = new Term("R", t, null, base);
            }
        }

        static Term joinTerm(Term t, Term u, int base) {
            if (t.is("n") && u.is("n")) {
                return number((int) (1L * t.numbers[0] * base + u.numbers[0]));
            }
            if (t.text.equals(new Term("Q", t.t, null, base).text) && u.text.equals(new Term("R", t.t, null, base).text)) {
                return t.t;
            }
            return new Term("J", t, u, base);
        }

        int end(int to) {
            if (open == null) {
                throw new IllegalStateException();
            }
            version(to == -1 || to >= 0 && to < versions.size());
            if (to != -1 && (to == open.from || !versions.get(to).shape().equals(shape.shape()))) {
                throw new IllegalArgumentException();
            }
            if (to == -1 && versions.size() == 8 || steps.size() == 16) {
                throw new UnsupportedOperationException();
            }
            if (to == -1) {
                versions.add(shape.deepCopy());
            }
            open.to = to == -1 ? versions.size() - 1 : to;
            steps.add(open);
            int answer = open.to;
            open = null;
            return answer;
        }

        boolean leave() {
            boolean was = open != null;
            open = null;
            return was;
        }

        int about(int v, int path, int what) {
            version(v >= 0 && v < versions.size());
            if (what < 0 || what > 3) {
                throw new IllegalArgumentException();
            }
            Node f = at(versions.get(v), names(path));
            if (f == null) {
                return what == 0 ? -1 : 0;
            }
            return what == 0 ? f.sort : what == 1 ? f.low : what == 2 ? f.high : f.inside();
        }

        int count(int what) {
            switch (what) {
                case 0:
                    return versions.size();
                case 1:
                    return steps.size();
                case 2:
                    int n = 0;
                    for (Rec rec : recs) {
                        n += rec == null ? 0 : 1;
                    }
                    return n;
                case 3:
                    return open == null ? -1 : open.prims.size();
                default:
                    throw new IllegalArgumentException();
            }
        }

        int free() {
            for (int h = 0; h < 16; h++) {
                if (recs[h] == null) {
                    return h;
                }
            }
            throw new UnsupportedOperationException();
        }

        int record(int v) {
            version(v >= 0 && v < versions.size());
            int h = free();
            begun = true;
            recs[h] = new Rec();
            recs[h].version = v;
            recs[h].root = versions.get(v).deepCopy();
            recs[h].root.makeDefault();
            return h;
        }

        Rec rec(int h) {
            if (h < 0 || h > 15 || recs[h] == null) {
                throw new IndexOutOfBoundsException();
            }
            return recs[h];
        }

        static Rec again(Rec rec) {
            Rec made = new Rec();
            made.version = rec.version;
            made.root = rec.root.deepCopy();
            made.kept = new HashMap<>(rec.kept);
            return made;
        }

        int copy(int h) {
            Rec rec = rec(h);
            int made = free();
            recs[made] = again(rec);
            return made;
        }

        void drop(int h) {
            rec(h);
            recs[h] = null;
        }

        Node of(int h, int path, int sort) {
            Node f = at(rec(h).root, names(path));
            if (f == null || f.sort != sort) {
                throw new IllegalArgumentException();
            }
            return f;
        }

        static void need(boolean is) {
            if (!is) {
                throw new IllegalArgumentException();
            }
        }

        void set(int h, int path, int value) {
            Node f = of(h, path, 0);
            need(value >= f.low && value <= f.high);
            f.value.set(0, value);
        }

        int put(int h, int path, int i, int value) {
            Node f = of(h, path, 1);
            need(value >= f.low && value <= f.high && i >= 0 && i <= f.value.size() && i < 6);
            if (i == f.value.size()) {
                f.value.add(value);
            } else {
                f.value.set(i, value);
            }
            return f.value.size();
        }

        void cut(int h, int path, int n) {
            Node f = of(h, path, 1);
            need(n >= 0 && n <= f.value.size());
            f.value = new ArrayList<>(f.value.subList(0, n));
        }

        int get(int h, int path) {
            return of(h, path, 0).value.get(0);
        }

        int size(int h, int path) {
            return of(h, path, 1).value.size();
        }

        int item(int h, int path, int i) {
            Node f = of(h, path, 1);
            need(i >= 0 && i < f.value.size());
            return f.value.get(i);
        }

        boolean same(int h, int other) {
            Rec a = rec(h);
            Rec b = rec(other);
            return a.version == b.version && a.root.content().equals(b.root.content());
        }

        /** Every way without a version twice, the best one chosen. */
        List<Integer> way(int from, int to, int without) {
            List<List<Integer>> all = new ArrayList<>();
            walk(new ArrayList<>(List.of(Math.min(from, to))), Math.max(from, to), without, all);
            List<Integer> best = null;
            for (List<Integer> one : all) {
                if (best == null || one.size() < best.size()
                        || one.size() == best.size() && less(one, best)) {
                    best = one;
                }
            }
            if (best != null && from > to) {
                Collections.reverse(best);
            }
            return best;
        }

        static boolean less(List<Integer> a, List<Integer> b) {
            for (int i = 0; i < a.size(); i++) {
                if (!a.get(i).equals(b.get(i))) {
                    return a.get(i) < b.get(i);
                }
            }
            return false;
        }

        void walk(List<Integer> soFar, int goal, int without, List<List<Integer>> all) {
            int now = soFar.get(soFar.size() - 1);
            if (now == goal) {
                all.add(new ArrayList<>(soFar));
                return;
            }
            for (int v = 0; v < versions.size(); v++) {
                if (!soFar.contains(v) && between(now, v, without) >= 0) {
                    soFar.add(v);
                    walk(soFar, goal, without, all);
                    soFar.remove(soFar.size() - 1);
                }
            }
        }

        int between(int u, int v, int without) {
            for (int s = 0; s < steps.size(); s++) {
                Way w = steps.get(s);
                if (s != without && (w.from == u && w.to == v || w.from == v && w.to == u)) {
                    return s;
                }
            }
            return -1;
        }

        void over(Node root, Rec rec, int s, boolean forth) {
            Way w = steps.get(s);
            for (int i = 0; i < w.prims.size(); i++) {
                int at = forth ? i : w.prims.size() - 1 - i;
                if (forth) {
                    forth(root, w.prims.get(at), rec, s + ":" + at, rec == null);
                } else {
                    back(root, w.prims.get(at), rec, s + ":" + at, rec == null);
                }
            }
        }

        int translate(int h, int v) {
            Rec rec = rec(h);
            version(v >= 0 && v < versions.size());
            List<Integer> way = way(rec.version, v, -1);
            if (way == null) {
                throw new IllegalStateException();
            }
            Rec made = again(rec);
            try {
                for (int k = 0; k + 1 < way.size(); k++) {
                    int s = between(way.get(k), way.get(k + 1), -1);
                    over(made.root, made, s, steps.get(s).from == way.get(k));
                }
            } catch (Cannot e) {
                throw new ArithmeticException();
            }
            made.version = v;
            if (!made.root.shape().equals(versions.get(v).shape())) {
                throw new AssertionError("the model's own shapes do not meet");
            }
            recs[h] = made;
            return way.size() - 1;
        }

        int route(int from, int to, int k) {
            version(from >= 0 && from < versions.size() && to >= 0 && to < versions.size());
            List<Integer> way = way(from, to, -1);
            return way == null || k < 0 || k >= way.size() ? -1 : way.get(k);
        }

        int clash(int s) {
            version(s >= 0 && s < steps.size());
            Way step = steps.get(s);
            List<Integer> way = way(step.from, step.to, s);
            if (way == null) {
                return -1;
            }
            Node one = versions.get(step.from).deepCopy();
            one.giveS(0);
            Node two = one.deepCopy();
            over(one, null, s, true);
            for (int k = 0; k + 1 < way.size(); k++) {
                int t = between(way.get(k), way.get(k + 1), s);
                over(two, null, t, steps.get(t).from == way.get(k));
            }
            return one.terms().equals(two.terms()) ? 0 : 1;
        }
    }

    // ---- the runs ----

    /** What an object is used for at most; what it answers later is free. */
    private static final int MAX_CALLS = 512;
    /** Some calls are left for asking all. */
    private static final int ENOUGH = 410;
    private static final int[] BOUNDS = {-1000000, -50, -7, -1, 0, 0, 0, 3, 9, 10, 20, 100, 2000000};
    private static final int[] EDGES = {Integer.MIN_VALUE, Integer.MAX_VALUE, -1, 16, 100, 127};
    private static final String[] CALLS = {"field", "begin", "primitive", "end", "leave", "about", "count",
        "record", "copy", "drop", "set", "put", "cut", "get", "size", "item", "version", "kept", "same",
        "translate", "route", "clash"};

    private final Random random;
    private final LensPaths real = new LensPaths();
    private final Model model = new Model();
    private final StringBuilder log = new StringBuilder();
    private int calls;
    private static int wrong;
    private static final Map<String, Integer> seen = new TreeMap<>();

    private ModelTest(long seed) {
        random = new Random(seed);
    }

    private static long realAnswer(LensPaths x, int call, int[] n) {
        switch (call) {
            case 0: return x.field(n[0], n[1], n[2], n[3]);
            case 1: x.begin(n[0]); return 0;
            case 2: return x.primitive(n[0], n[1], n[2], n[3], n[4]);
            case 3: return x.end(n[0]);
            case 4: return x.leave() ? 1 : 0;
            case 5: return x.about(n[0], n[1], n[2]);
            case 6: return x.count(n[0]);
            case 7: return x.record(n[0]);
            case 8: return x.copy(n[0]);
            case 9: x.drop(n[0]); return 0;
            case 10: x.set(n[0], n[1], n[2]); return 0;
            case 11: return x.put(n[0], n[1], n[2], n[3]);
            case 12: x.cut(n[0], n[1], n[2]); return 0;
            case 13: return x.get(n[0], n[1]);
            case 14: return x.size(n[0], n[1]);
            case 15: return x.item(n[0], n[1], n[2]);
            case 16: return x.version(n[0]);
            case 17: return x.kept(n[0]);
            case 18: return x.same(n[0], n[1]) ? 1 : 0;
            case 19: return x.translate(n[0], n[1]);
            case 20: return x.route(n[0], n[1], n[2]);
            default: return x.clash(n[0]);
        }
    }

    private static long modelAnswer(Model x, int call, int[] n) {
        switch (call) {
            case 0: return x.field(n[0], n[1], n[2], n[3]);
            case 1: x.begin(n[0]); return 0;
            case 2: return x.primitive(n[0], n[1], n[2], n[3], n[4]);
            case 3: return x.end(n[0]);
            case 4: return x.leave() ? 1 : 0;
            case 5: return x.about(n[0], n[1], n[2]);
            case 6: return x.count(n[0]);
            case 7: return x.record(n[0]);
            case 8: return x.copy(n[0]);
            case 9: x.drop(n[0]); return 0;
            case 10: x.set(n[0], n[1], n[2]); return 0;
            case 11: return x.put(n[0], n[1], n[2], n[3]);
            case 12: x.cut(n[0], n[1], n[2]); return 0;
            case 13: return x.get(n[0], n[1]);
            case 14: return x.size(n[0], n[1]);
            case 15: return x.item(n[0], n[1], n[2]);
            case 16: return x.rec(n[0]).version;
            case 17: return x.rec(n[0]).kept.size();
            case 18: return x.same(n[0], n[1]) ? 1 : 0;
            case 19: return x.translate(n[0], n[1]);
            case 20: return x.route(n[0], n[1], n[2]);
            default: return x.clash(n[0]);
        }
    }

    /** Makes a call of both, while calls are left: whether it was answered without an exception. */
    private boolean ask(int call, int... n) {
        if (calls == MAX_CALLS) {
            return false;
        }
        String got;
        String due;
        calls++;
        try {
            got = "" + realAnswer(real, call, n);
        } catch (RuntimeException e) {
            got = e.getClass().getSimpleName();
        }
        try {
            due = "" + modelAnswer(model, call, n);
        } catch (RuntimeException e) {
            due = e.getClass().getSimpleName();
        }
        log.append(CALLS[call]).append(Arrays.toString(n)).append(" = ").append(due).append('\n');
        boolean answered = !due.endsWith("Exception");
        seen.merge(CALLS[call] + (call == 21 && answered ? due : answered ? "" : " " + due), 1, Integer::sum);
        if (!got.equals(due)) {
            wrong++;
            if (wrong <= 3) {
                System.out.println(log + "but it answered " + got + "\n");
            }
        }
        return answered;
    }

    private int pick(int... of) {
        return of[random.nextInt(of.length)];
    }

    private boolean chance(int percent) {
        return random.nextInt(100) < percent;
    }

    private void collect(Node node, int path, int shift, List<Integer> paths) {
        for (Map.Entry<Integer, Node> e : node.kids.entrySet()) {
            int below = path | (e.getKey() + 1) << shift;
            paths.add(below);
            collect(e.getValue(), below, shift + 7, paths);
        }
    }

    private int somePath(Node root, int wantedSort) {
        if (chance(3)) {
            return chance(50) ? random.nextInt() : pick(0, 101, 128, 127, 1 << 28, 1 | 1 << 28, -1);
        }
        List<Integer> paths = new ArrayList<>();
        collect(root, 0, 0, paths);
        Collections.shuffle(paths, random);
        for (int path : paths) {
            if (wantedSort < 0 || Model.at(root, Model.names(path)).sort == wantedSort || chance(5)) {
                return path;
            }
        }
        return 1 + random.nextInt(4);
    }

    private int newPath(Node root) {
        List<Integer> in = new ArrayList<>(List.of(0, 0, 0));
        List<Integer> paths = new ArrayList<>();
        collect(root, 0, 0, paths);
        for (int path : paths) {
            if (Model.at(root, Model.names(path)).sort == 2 || chance(3)) {
                in.add(path);
            }
        }
        int parent = in.get(random.nextInt(in.size()));
        int depth = Model.names(parent).length;
        int name = chance(2) ? pick(100, 126) : random.nextInt(chance(80) ? 6 : 100);
        return parent | name + 1 << 7 * depth;
    }

    private int valueFor(Node f) {
        if (f == null || chance(3)) {
            return pick(EDGES);
        }
        long span = (long) f.high - f.low;
        if (chance(20)) {
            return pick(f.low, f.high, f.nearest());
        }
        if (span > 12 && chance(60)) {
            return (int) Math.max(f.low, Math.min(f.high, f.nearest() + random.nextInt(40) - 10L));
        }
        return (int) (f.low + (long) (random.nextDouble() * (span + 1)));
    }

    private void tellFields() {
        int n = pick(2, 4, 6, 8, 12, 30);
        for (int i = 0; i < n; i++) {
            int low = chance(3) ? pick(EDGES) : pick(BOUNDS);
            int high = chance(3) ? pick(EDGES) : pick(BOUNDS);
            if (low > high && chance(95)) {
                int swap = low;
                low = high;
                high = swap;
            }
            ask(0, newPath(model.versions.get(0)), chance(3) ? pick(3, -1) : pick(0, 0, 0, 1, 1, 2), low, high);
        }
    }

    private void somePrimitive() {
        Node now = model.open == null ? model.versions.get(0) : model.shape;
        int kind = chance(2) ? pick(-1, 9, 100) : random.nextInt(9);
        int sort = kind == 3 || kind == 5 || kind == 6 || kind == 7 ? 0 : kind == 8 ? 1 : -1;
        int path = kind == 1 ? newPath(now) : somePath(now, sort);
        if (kind == 4 && path < 128) {
            path = somePath(now, sort);
        }
        Node f = Model.at(now, Model.names(path));
        int a = chance(3) ? pick(EDGES) : random.nextInt(6);
        int b = chance(3) ? pick(EDGES) : random.nextInt(6);
        int c = chance(10) ? pick(EDGES) : b + random.nextInt(20);
        if (kind == 1 && !chance(3)) {
            a = random.nextInt(3);
            b = pick(-3, 0, 2);
            c = b + pick(0, 5, 9);
        } else if (kind == 5 && !chance(5)) {
            a = pick(2, 3, 7, 1000);
        } else if (kind == 6 && !chance(5)) {
            a = pick(1, 2, 3, 4, 1000);
            b = pick(1, 1, 2, 3, 4, 999);
        } else if (kind == 7 && f != null) {
            a = valueFor(f);
            b = valueFor(f);
        }
        ask(2, kind, path, a, b, c);
    }

    private void someStep() {
        int from = chance(3) ? pick(-1, 8, model.versions.size()) : random.nextInt(model.versions.size());
        Way again = model.steps.isEmpty() ? null : model.steps.get(random.nextInt(model.steps.size()));
        boolean repeat = again != null && chance(35);
        boolean undo = again != null && !repeat && chance(25);
        ask(1, repeat ? again.from : undo ? again.to : from);
        if (repeat) {
            for (int[] p : again.asked) {
                if (chance(10)) {
                    somePrimitive();
                }
                int twice = p[0] == 6 && chance(20) ? 2 : 1;
                ask(2, p[0], p[1], p[2] * twice, p[3] * twice, p[4]);
            }
        } else if (undo) {
            undoAll(again);
        } else {
            int n = pick(0, 1, 1, 2, 3, 4, 9);
            for (int i = 0; i < n; i++) {
                somePrimitive();
            }
        }
        if (chance(5)) {
            ask(4);
        }
        finish();
    }

    /** Primitives that lead from the schema behind a step towards the one before, where there are such. */
    private void undoAll(Way step) {
        for (int i = step.prims.size() - 1; i >= 0; i--) {
            Prim p = step.prims.get(i);
            int[] n = step.asked.get(i);
            int shift = 7 * (p.names.length - 1);
            int bare = n[1] & (1 << shift) - 1;
            Node old = Model.at(p.before, p.names);
            if (p.kind == 0) {
                ask(2, 0, bare | p.a + 1 << shift, Model.last(p.names), 0, 0);
            } else if (p.kind == 1) {
                ask(2, 2, n[1], 0, 0, 0);
            } else if (p.kind == 2) {
                ask(2, 1, n[1], old.sort, old.low, old.high);
            } else if (p.kind == 6) {
                ask(2, 6, n[1], p.b, p.a, 0);
            } else if (p.kind == 3) {
                ask(2, 2, n[1], 0, 0, 0);
                ask(2, 1, n[1], 0, old.low, old.high);
            }
        }
    }

    private void finish() {
        List<Integer> ends = new ArrayList<>();
        for (int v = 0; v < model.versions.size(); v++) {
            ends.add(v);
        }
        Collections.shuffle(ends, random);
        if (chance(5)) {
            ask(3, pick(-2, 8, model.versions.size()));
        }
        if (chance(85)) {
            for (int v : ends) {
                boolean fits = model.open != null && model.versions.get(v).shape().equals(model.shape.shape());
                if ((fits || chance(5)) && ask(3, v)) {
                    return;
                }
            }
        }
        ask(3, -1);
        if (chance(90)) {
            ask(4);
        }
    }

    private int someHandle() {
        if (chance(2)) {
            return pick(-1, 15, 16, 17);
        }
        List<Integer> live = new ArrayList<>();
        for (int h = 0; h < 16; h++) {
            if (model.recs[h] != null) {
                live.add(h);
            }
        }
        return live.isEmpty() ? 0 : live.get(random.nextInt(live.size()));
    }

    private int someVersion() {
        return chance(2) ? pick(-1, 8, model.versions.size()) : random.nextInt(model.versions.size());
    }

    private void someRecordCall() {
        int h = someHandle();
        Node root = h >= 0 && h < 16 && model.recs[h] != null ? model.recs[h].root : model.versions.get(0);
        int which = random.nextInt(100);
        int number = somePath(root, 0);
        int list = somePath(root, 1);
        Node f = Model.at(root, Model.names(number));
        Node l = Model.at(root, Model.names(list));
        if (which < 8) {
            ask(7, someVersion());
        } else if (which < 12) {
            ask(8, h);
        } else if (which < 15) {
            ask(9, h);
        } else if (which < 32) {
            ask(10, h, number, valueFor(f));
        } else if (which < 50) {
            int i = l == null ? 0 : chance(10) ? pick(-1, 6, 5) : random.nextInt(l.value.size() + 1);
            ask(11, h, list, i, valueFor(l));
        } else if (which < 55) {
            ask(12, h, list, random.nextInt(9) - 1);
        } else if (which < 58) {
            ask(18, h, someHandle());
        } else if (which < 60) {
            ask(15, h, list, random.nextInt(9) - 1);
        } else {
            ask(19, h, someVersion());
            ask(17, h);
            readAll(h);
        }
    }

    private void readAll(int h) {
        if (h < 0 || h > 15 || model.recs[h] == null) {
            return;
        }
        List<Integer> paths = new ArrayList<>();
        collect(model.recs[h].root, 0, 0, paths);
        ask(16, h);
        for (int path : paths) {
            Node f = Model.at(model.recs[h].root, Model.names(path));
            if (f.sort == 0) {
                ask(13, h, path);
            } else {
                ask(14, h, path);
            }
            for (int i = 0; i < f.value.size() && f.sort == 1; i++) {
                ask(15, h, path, i);
            }
        }
    }

    private void askAll() {
        for (int s = -1; s <= model.steps.size(); s++) {
            ask(21, s);
        }
        for (int what = -1; what < 5; what++) {
            ask(6, what);
        }
        ask(5, someVersion(), somePath(model.versions.get(0), -1), pick(-1, 4));
        for (int i = 0; i < 30; i++) {
            ask(20, someVersion(), someVersion(), random.nextInt(8) - 1);
        }
        for (int i = 0; i < 12; i++) {
            askAboutSome(random.nextInt(model.versions.size()));
        }
    }

    private void askAboutSome(int v) {
        List<Integer> paths = new ArrayList<>(List.of(0, 1, 101, -1, 128));
        collect(model.versions.get(v), 0, 0, paths);
        int path = paths.get(random.nextInt(paths.size()));
        for (int what = 0; what < 4; what++) {
            ask(5, v, path, what);
        }
    }

    private void run() {
        if (chance(10)) {
            ask(pick(1, 7), pick(0, -1));
        }
        tellFields();
        int rounds = 1 + random.nextInt(25);
        for (int r = 0; r < rounds && calls < ENOUGH; r++) {
            int n = random.nextInt(3);
            for (int i = 0; i < n; i++) {
                someStep();
            }
            n = random.nextInt(12);
            for (int i = 0; i < n && calls < ENOUGH; i++) {
                someRecordCall();
            }
            if (chance(3)) {
                ask(0, newPath(model.versions.get(0)), 0, 0, 1);
            }
        }
        askAll();
    }

    public static void main(String[] args) {
        int runs = args.length > 0 ? Integer.parseInt(args[0]) : 5000;
        for (int seed = 1; seed <= runs && wrong == 0; seed++) {
            new ModelTest(seed).run();
        }
        if (args.length > 1) {
            System.out.println(seen);
        }
        System.out.println(wrong == 0 ? runs + " runs as the model" : wrong + " answers are not as due");
        if (wrong != 0) {
            System.exit(1);
        }
    }
}
