/**
 * Records under versions of a schema, taken from version to version over steps of primitives.
 * ../shared/DOC.md says what each call promises.
 */
public final class LensPaths {
    public static final int NONE = -1;

    private static final int MAX_FIELDS = 24;
    private static final int MAX_VERSIONS = 8;
    private static final int MAX_STEPS = 16;
    private static final int MAX_PRIMITIVES = 8;
    private static final int MAX_RECORDS = 16;
    private static final int MAX_ITEMS = 6;
    private static final int MAX_KEPT = MAX_STEPS * MAX_PRIMITIVES;
    // Each primitive brings one field more at most, and no slot is used twice within a step.
    private static final int MAX_SLOTS = MAX_FIELDS + MAX_PRIMITIVES;
    private static final int MAX_NAME = 99;
    private static final int MAX_FACTOR = 1000;

    private static final int NUMBER = 0;
    private static final int LIST = 1;
    private static final int GROUP = 2;

    private static final int RENAME = 0;
    private static final int ADD = 1;
    private static final int REMOVE = 2;
    private static final int WRAP = 3;
    private static final int LIFT = 4;
    private static final int SPLIT = 5;
    private static final int SCALE = 6;
    private static final int MAP = 7;
    private static final int SORT = 8;

    private final Versions versions = new Versions();
    private final Draft draft = new Draft();
    private final Row[] rows = new Row[MAX_RECORDS];
    // A record is taken here first, so that one that cannot be taken stays as it was.
    private Row spare = new Row();
    private final Carrier carrier = new Carrier();
    private final Terms terms = new Terms();
    private boolean begun;

    public LensPaths() {
    }

    public int field(int path, int sort, int low, int high)
            throws IllegalStateException, IllegalArgumentException {
        Schema first = versions.schemas[0];
        if (begun || first.count == MAX_FIELDS) {
            throw new IllegalStateException();
        }
        int key = Key.ofPath(path);
        if (!first.hasRoomAt(key) || !isShape(sort, low, high)) {
            throw new IllegalArgumentException();
        }
        first.insert(key, sort, low, high, first.count);
        return first.count;
    }

    public void begin(int from) throws IndexOutOfBoundsException, IllegalStateException {
        needVersion(from);
        if (draft.open) {
            throw new IllegalStateException();
        }
        begun = true;
        draft.openAt(from, versions.schemas[from]);
    }

    public int primitive(int kind, int path, int a, int b, int c)
            throws IllegalStateException, IllegalArgumentException {
        if (!draft.open || draft.count == MAX_PRIMITIVES) {
            throw new IllegalStateException();
        }
        if (!draft.append(kind, path, a, b, c)) {
            throw new IllegalArgumentException();
        }
        return draft.count;
    }

    public int end(int to) throws IllegalStateException, IndexOutOfBoundsException,
            IllegalArgumentException, UnsupportedOperationException {
        if (!draft.open) {
            throw new IllegalStateException();
        }
        if (to != NONE) {
            needVersion(to);
        }
        if (to != NONE && (to == draft.from || !versions.schemas[to].isLike(draft.schema))) {
            throw new IllegalArgumentException();
        }
        if (to == NONE && versions.count == MAX_VERSIONS || versions.stepCount == MAX_STEPS) {
            throw new UnsupportedOperationException();
        }
        int target = to == NONE ? versions.addVersion(draft.schema) : to;
        versions.addStep(draft, target);
        draft.open = false;
        return target;
    }

    public boolean leave() {
        boolean wasOpen = draft.open;
        draft.open = false;
        return wasOpen;
    }

    public int about(int version, int path, int what)
            throws IndexOutOfBoundsException, IllegalArgumentException {
        needVersion(version);
        if (what < 0 || what > 3) {
            throw new IllegalArgumentException();
        }
        Schema schema = versions.schemas[version];
        int key = Key.ofPath(path);
        if (what == 3) {
            return schema.countInside(key);
        }
        if (key == Key.ROOT) {
            return what == 0 ? GROUP : 0;
        }
        int i = schema.find(key);
        if (i == NONE) {
            return what == 0 ? NONE : 0;
        }
        Field field = schema.fields[i];
        return what == 0 ? field.sort : what == 1 ? field.low : field.high;
    }

    public int count(int what) throws IllegalArgumentException {
        switch (what) {
            case 0:
                return versions.count;
            case 1:
                return versions.stepCount;
            case 2:
                return liveRecords();
            case 3:
                return draft.open ? draft.count : NONE;
            default:
                throw new IllegalArgumentException();
        }
    }

    public int record(int version) throws IndexOutOfBoundsException, UnsupportedOperationException {
        needVersion(version);
        int h = freeHandle();
        if (h == NONE) {
            throw new UnsupportedOperationException();
        }
        begun = true;
        rowFor(h).makeDefault(version, versions.schemas[version]);
        return h;
    }

    public int copy(int h) throws IndexOutOfBoundsException, UnsupportedOperationException {
        needHandle(h);
        int free = freeHandle();
        if (free == NONE) {
            throw new UnsupportedOperationException();
        }
        rowFor(free).makeLike(rows[h]);
        return free;
    }

    public void drop(int h) throws IndexOutOfBoundsException {
        needHandle(h);
        rows[h].live = false;
    }

    public void set(int h, int path, int value)
            throws IndexOutOfBoundsException, IllegalArgumentException {
        needHandle(h);
        int at = placeOf(h, path, NUMBER);
        if (!schemaOf(h).fields[at].admits(value)) {
            throw new IllegalArgumentException();
        }
        rows[h].fields.writeNumber(at, value);
    }

    public int put(int h, int path, int i, int value)
            throws IndexOutOfBoundsException, IllegalArgumentException {
        needHandle(h);
        int at = placeOf(h, path, LIST);
        Cells cells = rows[h].fields;
        boolean isPlace = i >= 0 && i <= cells.lengthOf(at) && i < MAX_ITEMS;
        if (!isPlace || !schemaOf(h).fields[at].admits(value)) {
            throw new IllegalArgumentException();
        }
        if (i == cells.lengthOf(at)) {
            cells.resize(at, i + 1);
        }
        cells.write(at, i, value);
        return cells.lengthOf(at);
    }

    public void cut(int h, int path, int n)
            throws IndexOutOfBoundsException, IllegalArgumentException {
        needHandle(h);
        int at = placeOf(h, path, LIST);
        if (n < 0 || n > rows[h].fields.lengthOf(at)) {
            throw new IllegalArgumentException();
        }
        rows[h].fields.resize(at, n);
    }

    public int get(int h, int path) throws IndexOutOfBoundsException, IllegalArgumentException {
        needHandle(h);
        return rows[h].fields.read(placeOf(h, path, NUMBER), 0);
    }

    public int size(int h, int path) throws IndexOutOfBoundsException, IllegalArgumentException {
        needHandle(h);
        return rows[h].fields.lengthOf(placeOf(h, path, LIST));
    }

    public int item(int h, int path, int i)
            throws IndexOutOfBoundsException, IllegalArgumentException {
        needHandle(h);
        int at = placeOf(h, path, LIST);
        if (i < 0 || i >= rows[h].fields.lengthOf(at)) {
            throw new IllegalArgumentException();
        }
        return rows[h].fields.read(at, i);
    }

    public int version(int h) throws IndexOutOfBoundsException {
        needHandle(h);
        return rows[h].version;
    }

    public int kept(int h) throws IndexOutOfBoundsException {
        needHandle(h);
        return rows[h].countKept();
    }

    public boolean same(int h, int other) throws IndexOutOfBoundsException {
        needHandle(h);
        needHandle(other);
        return rows[h].version == rows[other].version
                && rows[h].fields.agree(rows[other].fields, schemaOf(h).count);
    }

    public int translate(int h, int version)
            throws IndexOutOfBoundsException, IllegalStateException, ArithmeticException {
        needHandle(h);
        needVersion(version);
        int length = versions.findWay(rows[h].version, version, NONE);
        if (length == NONE) {
            throw new IllegalStateException();
        }
        spare.makeLike(rows[h]);
        if (!carryAlong(length)) {
            throw new ArithmeticException();
        }
        Row before = rows[h];
        rows[h] = spare;
        spare = before;
        return length;
    }

    public int route(int from, int to, int k) throws IndexOutOfBoundsException {
        needVersion(from);
        needVersion(to);
        int length = versions.findWay(from, to, NONE);
        return length == NONE || k < 0 || k > length ? NONE : versions.stops[k];
    }

    public int clash(int step) throws IndexOutOfBoundsException {
        if (!versions.hasStep(step)) {
            throw new IndexOutOfBoundsException();
        }
        Step told = versions.steps[step];
        int length = versions.findWay(told.from, told.to, step);
        if (length == NONE) {
            return NONE;
        }
        Schema schema = versions.schemas[told.from];
        terms.clear();
        terms.start(terms.byStep, schema);
        terms.takeOver(terms.byStep, told, true);
        terms.start(terms.byWay, schema);
        for (int k = 0; k < length; k++) {
            Step next = versions.stepOnWay(k, step);
            terms.takeOver(terms.byWay, next, next.from == versions.stops[k]);
        }
        return terms.differ(versions.schemas[told.to].count) ? 1 : 0;
    }

    private boolean carryAlong(int length) {
        for (int k = 0; k < length; k++) {
            Step next = versions.stepOnWay(k, NONE);
            if (!carrier.takeOver(spare, next, next.from == versions.stops[k])) {
                return false;
            }
        }
        return true;
    }

    private void needVersion(int version) throws IndexOutOfBoundsException {
        if (!versions.hasVersion(version)) {
            throw new IndexOutOfBoundsException();
        }
    }

    private void needHandle(int h) throws IndexOutOfBoundsException {
        if (!isHandle(h)) {
            throw new IndexOutOfBoundsException();
        }
    }

    private boolean isHandle(int h) {
        return h >= 0 && h < MAX_RECORDS && rows[h] != null && rows[h].live;
    }

    private int freeHandle() {
        for (int h = 0; h < MAX_RECORDS; h++) {
            if (!isHandle(h)) {
                return h;
            }
        }
        return NONE;
    }

    private int liveRecords() {
        int live = 0;
        for (int h = 0; h < MAX_RECORDS; h++) {
            if (isHandle(h)) {
                live++;
            }
        }
        return live;
    }

    private Row rowFor(int h) {
        if (rows[h] == null) {
            rows[h] = new Row();
        }
        return rows[h];
    }

    private Schema schemaOf(int h) {
        return versions.schemas[rows[h].version];
    }

    private int placeOf(int h, int path, int sort) throws IllegalArgumentException {
        Schema schema = schemaOf(h);
        int at = schema.find(Key.ofPath(path));
        if (at == NONE || schema.fields[at].sort != sort) {
            throw new IllegalArgumentException();
        }
        return at;
    }

    private static boolean isShape(int sort, int low, int high) {
        return sort == GROUP || (sort == NUMBER || sort == LIST) && low <= high;
    }

    private static int nearestToZero(int low, int high) {
        return low > 0 ? low : high < 0 ? high : 0;
    }

    /**
     * A path with its first name in the highest bits: so keys in order are fields in order, each
     * record directly before what is in it.
     */
    private static final class Key {
        static final int ROOT = 0;
        static final int NOWHERE = -1;
        private static final int DEPTH = 4;
        private static final int BITS = 7;
        private static final int MASK = 127;

        static int ofPath(int path) {
            int key = ROOT;
            int rest = path;
            for (int d = 0; d < DEPTH; d++) {
                int part = rest & MASK;
                rest >>>= BITS;
                if (part > MAX_NAME + 1 || part == 0 && rest != 0) {
                    return NOWHERE;
                }
                key = key << BITS | part;
            }
            return rest == 0 ? key : NOWHERE;
        }

        /** How far up the last name stands; above all names for the root. */
        static int shift(int key) {
            int shift = 0;
            while (shift < DEPTH * BITS && (key >> shift & MASK) == 0) {
                shift += BITS;
            }
            return shift;
        }

        static int parent(int key) {
            return key & ~(MASK << shift(key));
        }

        static int beside(int key, int name) {
            return parent(key) | name + 1 << shift(key);
        }

        /** The place beside the record that the key is in, under the key's own name. */
        static int lifted(int key) {
            int shift = shift(key);
            return parent(parent(key)) | (key >> shift & MASK) << shift + BITS;
        }

        static boolean isWithin(int key, int top) {
            int shift = shift(top);
            return key >> shift == top >> shift;
        }

        static boolean isName(int name) {
            return name >= 0 && name <= MAX_NAME;
        }
    }

    private static final class Field {
        int key;
        int sort;
        int low;
        int high;
        // Names and places change within a step; the slot does not.
        int slot;

        boolean admits(int value) {
            return low <= value && value <= high;
        }

        void makeLike(Field other) {
            key = other.key;
            sort = other.sort;
            low = other.low;
            high = other.high;
            slot = other.slot;
        }
    }

    private static final class Schema {
        final Field[] fields = new Field[MAX_FIELDS];
        int count;

        Schema() {
            for (int i = 0; i < MAX_FIELDS; i++) {
                fields[i] = new Field();
            }
        }

        /** As the other one, with slots by place. */
        void makeLike(Schema other) {
            count = other.count;
            for (int i = 0; i < count; i++) {
                fields[i].makeLike(other.fields[i]);
                fields[i].slot = i;
            }
        }

        boolean isLike(Schema other) {
            if (count != other.count) {
                return false;
            }
            for (int i = 0; i < count; i++) {
                Field mine = fields[i];
                Field its = other.fields[i];
                if (mine.key != its.key || mine.sort != its.sort
                        || mine.low != its.low || mine.high != its.high) {
                    return false;
                }
            }
            return true;
        }

        int find(int key) {
            for (int i = 0; i < count; i++) {
                if (fields[i].key == key) {
                    return i;
                }
            }
            return NONE;
        }

        boolean hasRoomAt(int key) {
            return key > Key.ROOT && isGroup(Key.parent(key)) && find(key) == NONE;
        }

        private boolean isGroup(int key) {
            int i = find(key);
            return key == Key.ROOT || i != NONE && fields[i].sort == GROUP;
        }

        int countInside(int key) {
            if (key == Key.NOWHERE) {
                return 0;
            }
            int inside = 0;
            for (int i = 0; i < count; i++) {
                if (fields[i].key != key && Key.isWithin(fields[i].key, key)) {
                    inside++;
                }
            }
            return inside;
        }

        Field insert(int key, int sort, int low, int high, int slot) {
            Field field = fields[count];
            field.key = key;
            field.sort = sort;
            // Bounds of record types count for nothing, so they must not tell schemas apart.
            field.low = sort == GROUP ? 0 : low;
            field.high = sort == GROUP ? 0 : high;
            field.slot = slot;
            count++;
            arrange();
            return field;
        }

        void takeOut(Field field) {
            int at = find(field.key);
            if (at == NONE) {
                return;
            }
            count--;
            for (int i = at; i < count; i++) {
                fields[i] = fields[i + 1];
            }
            fields[count] = field;
        }

        /** A field goes to another place, with all that is in it. */
        void move(int key, int target) {
            int shift = Key.shift(key);
            int up = Key.shift(target) - shift;
            for (int i = 0; i < count; i++) {
                int old = fields[i].key;
                if (Key.isWithin(old, key)) {
                    int below = old & (1 << shift) - 1;
                    fields[i].key = target | below << up;
                }
            }
            arrange();
        }

        private void arrange() {
            for (int i = 1; i < count; i++) {
                Field field = fields[i];
                int at = i;
                while (at > 0 && fields[at - 1].key > field.key) {
                    fields[at] = fields[at - 1];
                    at--;
                }
                fields[at] = field;
            }
        }
    }

    /** One primitive, with the field that it works on as that was before (for ADD: as it comes). */
    private static final class Primitive {
        final int kind;
        final int slot;
        final int sort;
        final int low;
        final int high;
        final int a;
        final int b;
        int restSlot;

        Primitive(int kind, Field field, int a, int b) {
            this.kind = kind;
            this.slot = field.slot;
            this.sort = field.sort;
            this.low = field.low;
            this.high = field.high;
            this.a = a;
            this.b = b;
        }

        int defaultNumber() {
            return nearestToZero(low, high);
        }

        boolean admits(long value) {
            return low <= value && value <= high;
        }

        int scaleForth(int x) {
            return (int) Math.floorDiv((long) a * x, (long) b);
        }

        int scaleBack(int x) {
            long back = Math.floorDiv((long) b * x, (long) a);
            return (int) Math.max(low, Math.min(high, back));
        }

        int mapForth(int x) {
            return x == a ? b : x;
        }
    }

    private static final class Step {
        final int number;
        final int from;
        final int to;
        final int count;
        final Primitive[] primitives = new Primitive[MAX_PRIMITIVES];
        // Fields have the slots 0, 1, .. before the step, and these behind it.
        final int fieldsBefore;
        final int[] slotsBehind;

        Step(int number, Draft draft, int to) {
            this.number = number;
            this.from = draft.from;
            this.to = to;
            this.count = draft.count;
            this.fieldsBefore = draft.fieldsBefore;
            this.slotsBehind = new int[draft.schema.count];
            for (int i = 0; i < count; i++) {
                primitives[i] = draft.primitives[i];
            }
            for (int i = 0; i < slotsBehind.length; i++) {
                slotsBehind[i] = draft.schema.fields[i].slot;
            }
        }
    }

    /** The step under way, with the schema that its primitives have made so far. */
    private static final class Draft {
        final Schema schema = new Schema();
        final Primitive[] primitives = new Primitive[MAX_PRIMITIVES];
        int count;
        int from;
        int fieldsBefore;
        boolean open;
        private int nextSlot;

        void openAt(int version, Schema start) {
            open = true;
            from = version;
            schema.makeLike(start);
            fieldsBefore = start.count;
            nextSlot = start.count;
            count = 0;
        }

        /** Whether the primitive could be done; nothing is changed otherwise. */
        boolean append(int kind, int path, int a, int b, int c) {
            int key = Key.ofPath(path);
            Primitive made = kind == ADD ? add(key, a, b, c) : work(kind, key, a, b);
            if (made == null) {
                return false;
            }
            primitives[count] = made;
            count++;
            return true;
        }

        private Primitive work(int kind, int key, int a, int b) {
            int i = schema.find(key);
            if (i == NONE) {
                return null;
            }
            Field field = schema.fields[i];
            switch (kind) {
                case RENAME:
                    return rename(field, a);
                case REMOVE:
                    return remove(field);
                case WRAP:
                    return wrap(field);
                case LIFT:
                    return lift(field);
                case SPLIT:
                    return split(field, a, b);
                case SCALE:
                    return scale(field, a, b);
                case MAP:
                    return map(field, a, b);
                case SORT:
                    return field.sort == LIST ? new Primitive(SORT, field, 0, 0) : null;
                default:
                    return null;
            }
        }

        private Primitive add(int key, int sort, int low, int high) {
            if (schema.count == MAX_FIELDS || !schema.hasRoomAt(key)
                    || !isShape(sort, low, high)) {
                return null;
            }
            return new Primitive(ADD, schema.insert(key, sort, low, high, takeSlot()), 0, 0);
        }

        private Primitive rename(Field field, int name) {
            if (!Key.isName(name) || schema.find(Key.beside(field.key, name)) != NONE) {
                return null;
            }
            schema.move(field.key, Key.beside(field.key, name));
            return new Primitive(RENAME, field, 0, 0);
        }

        private Primitive remove(Field field) {
            if (schema.countInside(field.key) != 0) {
                return null;
            }
            schema.takeOut(field);
            return new Primitive(REMOVE, field, 0, 0);
        }

        private Primitive wrap(Field field) {
            if (field.sort != NUMBER) {
                return null;
            }
            Primitive made = new Primitive(WRAP, field, 0, 0);
            field.sort = LIST;
            return made;
        }

        private Primitive lift(Field field) {
            // If the record itself has the field's name, the place is found taken by that record.
            if (Key.parent(field.key) == Key.ROOT || schema.find(Key.lifted(field.key)) != NONE) {
                return null;
            }
            schema.move(field.key, Key.lifted(field.key));
            return new Primitive(LIFT, field, 0, 0);
        }

        private Primitive split(Field field, int base, int name) {
            if (field.sort != NUMBER || base < 2 || base > MAX_FACTOR || !Key.isName(name)) {
                return null;
            }
            int restKey = Key.beside(field.key, name);
            if (schema.count == MAX_FIELDS || schema.find(restKey) != NONE) {
                return null;
            }
            Primitive made = new Primitive(SPLIT, field, base, 0);
            made.restSlot = takeSlot();
            field.low = Math.floorDiv(field.low, base);
            field.high = Math.floorDiv(field.high, base);
            schema.insert(restKey, NUMBER, 0, base - 1, made.restSlot);
            return made;
        }

        private Primitive scale(Field field, int a, int b) {
            if (field.sort != NUMBER || a < 1 || a > MAX_FACTOR || b < 1 || b > MAX_FACTOR) {
                return null;
            }
            long low = Math.floorDiv((long) a * field.low, (long) b);
            long high = Math.floorDiv((long) a * field.high, (long) b);
            if (low != (int) low || high != (int) high) {
                return null;
            }
            Primitive made = new Primitive(SCALE, field, a, b);
            field.low = (int) low;
            field.high = (int) high;
            return made;
        }

        private Primitive map(Field field, int a, int b) {
            boolean fits = field.sort == NUMBER && field.admits(a) && field.admits(b) && a != b;
            return fits ? new Primitive(MAP, field, a, b) : null;
        }

        private int takeSlot() {
            nextSlot++;
            return nextSlot - 1;
        }
    }

    /** The versions, the steps between them, and the ways over these. */
    private static final class Versions {
        final Schema[] schemas = new Schema[MAX_VERSIONS];
        int count = 1;
        final Step[] steps = new Step[MAX_STEPS];
        int stepCount;
        // The versions on the way that was found last.
        final int[] stops = new int[MAX_VERSIONS];
        private final int[] far = new int[MAX_VERSIONS];

        Versions() {
            schemas[0] = new Schema();
        }

        boolean hasVersion(int v) {
            return v >= 0 && v < count;
        }

        boolean hasStep(int s) {
            return s >= 0 && s < stepCount;
        }

        int addVersion(Schema schema) {
            schemas[count] = new Schema();
            schemas[count].makeLike(schema);
            count++;
            return count - 1;
        }

        void addStep(Draft draft, int to) {
            steps[stepCount] = new Step(stepCount, draft, to);
            stepCount++;
        }

        /** Over how many steps the route leads, or NONE; the step 'without' is not used. */
        int findWay(int from, int to, int without) {
            int start = Math.min(from, to);
            measure(Math.max(from, to), without);
            int length = far[start];
            if (length == MAX_VERSIONS) {
                return NONE;
            }
            stops[0] = start;
            for (int k = 1; k <= length; k++) {
                stops[k] = nearerStop(stops[k - 1], without);
            }
            if (from > to) {
                turnRound(length);
            }
            return length;
        }

        Step stepOnWay(int k, int without) {
            return steps[firstStep(stops[k], stops[k + 1], without)];
        }

        private void measure(int goal, int without) {
            for (int v = 0; v < count; v++) {
                far[v] = v == goal ? 0 : MAX_VERSIONS;
            }
            for (int round = 1; round < count; round++) {
                for (int s = 0; s < stepCount; s++) {
                    if (s != without) {
                        int from = steps[s].from;
                        int to = steps[s].to;
                        far[from] = Math.min(far[from], far[to] + 1);
                        far[to] = Math.min(far[to], far[from] + 1);
                    }
                }
            }
        }

        private int nearerStop(int at, int without) {
            for (int v = 0; v < count; v++) {
                if (far[v] == far[at] - 1 && firstStep(at, v, without) != NONE) {
                    return v;
                }
            }
            return at;
        }

        private int firstStep(int u, int v, int without) {
            for (int s = 0; s < stepCount; s++) {
                boolean joins = steps[s].from == u && steps[s].to == v
                        || steps[s].from == v && steps[s].to == u;
                if (joins && s != without) {
                    return s;
                }
            }
            return NONE;
        }

        private void turnRound(int length) {
            for (int i = 0, j = length; i < j; i++, j--) {
                int stop = stops[i];
                stops[i] = stops[j];
                stops[j] = stop;
            }
        }
    }

    /** Values of fields: a number is held as a list of one number, a record type as one of none. */
    private static final class Cells {
        private static final int WIDTH = MAX_ITEMS + 1;
        private final int[] data;

        Cells(int cells) {
            data = new int[cells * WIDTH];
        }

        int lengthOf(int cell) {
            return data[cell * WIDTH];
        }

        void resize(int cell, int length) {
            data[cell * WIDTH] = length;
        }

        int read(int cell, int i) {
            return data[cell * WIDTH + 1 + i];
        }

        void write(int cell, int i, int value) {
            data[cell * WIDTH + 1 + i] = value;
        }

        void writeNumber(int cell, int value) {
            data[cell * WIDTH] = 1;
            data[cell * WIDTH + 1] = value;
        }

        void writeDefault(int cell, int sort, int low, int high) {
            if (sort == NUMBER) {
                writeNumber(cell, nearestToZero(low, high));
            } else {
                resize(cell, 0);
            }
        }

        void take(int cell, Cells other, int from) {
            System.arraycopy(other.data, from * WIDTH, data, cell * WIDTH, WIDTH);
        }

        void takeAll(Cells other) {
            System.arraycopy(other.data, 0, data, 0, data.length);
        }

        boolean matches(int cell, Cells other, int at) {
            if (lengthOf(cell) != other.lengthOf(at)) {
                return false;
            }
            for (int i = 0; i < lengthOf(cell); i++) {
                if (read(cell, i) != other.read(at, i)) {
                    return false;
                }
            }
            return true;
        }

        boolean agree(Cells other, int cells) {
            for (int cell = 0; cell < cells; cell++) {
                if (!matches(cell, other, cell)) {
                    return false;
                }
            }
            return true;
        }

        void arrange(int cell) {
            int start = cell * WIDTH + 1;
            int end = start + data[cell * WIDTH];
            for (int i = start + 1; i < end; i++) {
                int value = data[i];
                int at = i;
                while (at > start && data[at - 1] > value) {
                    data[at] = data[at - 1];
                    at--;
                }
                data[at] = value;
            }
        }
    }

    /** A record: its fields in the order of its version's schema, and what is kept for it. */
    private static final class Row {
        static final int NOT_KEPT = 0;
        static final int KEPT_FORTH = 1;
        static final int KEPT_BACK = 2;

        boolean live;
        int version;
        final Cells fields = new Cells(MAX_FIELDS);
        final int[] keptFrom = new int[MAX_KEPT];
        final Cells keptThing = new Cells(MAX_KEPT);
        final Cells cameOfIt = new Cells(MAX_KEPT);

        void makeDefault(int ofVersion, Schema schema) {
            live = true;
            version = ofVersion;
            for (int i = 0; i < schema.count; i++) {
                Field field = schema.fields[i];
                fields.writeDefault(i, field.sort, field.low, field.high);
            }
            for (int i = 0; i < MAX_KEPT; i++) {
                keptFrom[i] = NOT_KEPT;
            }
        }

        void makeLike(Row other) {
            live = other.live;
            version = other.version;
            fields.takeAll(other.fields);
            System.arraycopy(other.keptFrom, 0, keptFrom, 0, MAX_KEPT);
            keptThing.takeAll(other.keptThing);
            cameOfIt.takeAll(other.cameOfIt);
        }

        int countKept() {
            int things = 0;
            for (int i = 0; i < MAX_KEPT; i++) {
                if (keptFrom[i] != NOT_KEPT) {
                    things++;
                }
            }
            return things;
        }
    }

    /** Takes records over steps. */
    private static final class Carrier {
        private static final int BEFORE = MAX_SLOTS;
        private static final int CHECK = MAX_SLOTS + 1;
        private final Cells slots = new Cells(MAX_SLOTS + 2);

        /** Whether the record could be taken; it is worth nothing any more otherwise. */
        boolean takeOver(Row row, Step step, boolean forth) {
            load(row, step, forth);
            for (int i = 0; i < step.count; i++) {
                int at = forth ? i : step.count - 1 - i;
                int place = step.number * MAX_PRIMITIVES + at;
                if (!pass(step.primitives[at], row, place, forth)) {
                    return false;
                }
            }
            unload(row, step, forth);
            return true;
        }

        private void load(Row row, Step step, boolean forth) {
            int count = forth ? step.fieldsBefore : step.slotsBehind.length;
            for (int i = 0; i < count; i++) {
                slots.take(forth ? i : step.slotsBehind[i], row.fields, i);
            }
        }

        private void unload(Row row, Step step, boolean forth) {
            int count = forth ? step.slotsBehind.length : step.fieldsBefore;
            for (int i = 0; i < count; i++) {
                row.fields.take(i, slots, forth ? step.slotsBehind[i] : i);
            }
            row.version = forth ? step.to : step.from;
        }

        private boolean pass(Primitive p, Row row, int place, boolean forth) {
            switch (p.kind) {
                case ADD:
                    comeOrGo(p, row, place, forth);
                    return true;
                case REMOVE:
                    comeOrGo(p, row, place, !forth);
                    return true;
                case WRAP:
                    if (forth) {
                        wrap(p, row, place);
                    } else {
                        unwrap(p, row, place);
                    }
                    return true;
                case SPLIT:
                    return forth ? split(p) : join(p);
                case SCALE:
                case MAP:
                case SORT:
                    change(p, row, place, forth);
                    return true;
                default:
                    return true;
            }
        }

        private void comeOrGo(Primitive p, Row row, int place, boolean comes) {
            if (!comes) {
                slots.writeDefault(CHECK, p.sort, p.low, p.high);
                keepUnless(slots.matches(p.slot, slots, CHECK), p, row, place);
                return;
            }
            if (row.keptFrom[place] != Row.NOT_KEPT) {
                slots.take(p.slot, row.keptThing, place);
            } else {
                slots.writeDefault(p.slot, p.sort, p.low, p.high);
            }
            row.keptFrom[place] = Row.NOT_KEPT;
        }

        /** For the kinds that keep from one direction alone: which one need not be told then. */
        private void keepUnless(boolean needless, Primitive p, Row row, int place) {
            row.keptFrom[place] = needless ? Row.NOT_KEPT : Row.KEPT_BACK;
            if (!needless) {
                row.keptThing.take(place, slots, p.slot);
            }
        }

        private void wrap(Primitive p, Row row, int place) {
            int x = slots.read(p.slot, 0);
            if (row.keptFrom[place] != Row.NOT_KEPT) {
                slots.take(p.slot, row.keptThing, place);
                if (slots.lengthOf(p.slot) > 0) {
                    slots.write(p.slot, 0, x);
                } else if (x != p.defaultNumber()) {
                    slots.writeNumber(p.slot, x);
                }
            }
            row.keptFrom[place] = Row.NOT_KEPT;
        }

        private void unwrap(Primitive p, Row row, int place) {
            int length = slots.lengthOf(p.slot);
            keepUnless(length == 1, p, row, place);
            slots.writeNumber(p.slot, length > 0 ? slots.read(p.slot, 0) : p.defaultNumber());
        }

        private boolean split(Primitive p) {
            int x = slots.read(p.slot, 0);
            slots.writeNumber(p.slot, Math.floorDiv(x, p.a));
            slots.writeNumber(p.restSlot, Math.floorMod(x, p.a));
            return true;
        }

        private boolean join(Primitive p) {
            long joined = (long) slots.read(p.slot, 0) * p.a + slots.read(p.restSlot, 0);
            if (!p.admits(joined)) {
                return false;
            }
            slots.writeNumber(p.slot, (int) joined);
            return true;
        }

        private void change(Primitive p, Row row, int place, boolean forth) {
            int otherWay = forth ? Row.KEPT_BACK : Row.KEPT_FORTH;
            boolean comesBack = row.keptFrom[place] == otherWay
                    && slots.matches(p.slot, row.cameOfIt, place);
            row.keptFrom[place] = Row.NOT_KEPT;
            if (comesBack) {
                slots.take(p.slot, row.keptThing, place);
                return;
            }
            slots.take(BEFORE, slots, p.slot);
            apply(p, p.slot, forth);
            slots.take(CHECK, slots, p.slot);
            apply(p, CHECK, !forth);
            if (!slots.matches(CHECK, slots, BEFORE)) {
                row.keptFrom[place] = forth ? Row.KEPT_FORTH : Row.KEPT_BACK;
                row.keptThing.take(place, slots, BEFORE);
                row.cameOfIt.take(place, slots, p.slot);
            }
        }

        /** What SCALE, MAP and SORT do where nothing is kept. */
        private void apply(Primitive p, int cell, boolean forth) {
            if (p.kind == SCALE) {
                int x = slots.read(cell, 0);
                slots.writeNumber(cell, forth ? p.scaleForth(x) : p.scaleBack(x));
            } else if (p.kind == MAP && forth) {
                slots.writeNumber(cell, p.mapForth(slots.read(cell, 0)));
            } else if (p.kind == SORT && forth) {
                slots.arrange(cell);
            }
        }
    }

    /**
     * Terms, each of which stands in the table once: so two are the same just when their places
     * are, however deep they go and however much they share.
     */
    private static final class Terms {
        private static final int S = 0;
        private static final int N = 1;
        private static final int E = 2;
        private static final int W = 3;
        private static final int F = 4;
        private static final int Q = 5;
        private static final int R = 6;
        private static final int J = 7;
        private static final int M = 8;
        private static final int B = 9;
        private static final int P = 10;
        private static final int O = 11;
        // The S of the fields, and two for each primitive: of the step, and of the longest way.
        private static final int MAX_TERMS = MAX_FIELDS + 2 * MAX_PRIMITIVES * MAX_VERSIONS;

        final int[] byStep = new int[MAX_FIELDS];
        final int[] byWay = new int[MAX_FIELDS];
        private final int[] slots = new int[MAX_SLOTS];
        private final int[] kind = new int[MAX_TERMS];
        private final int[] first = new int[MAX_TERMS];
        private final int[] second = new int[MAX_TERMS];
        private final int[] a = new int[MAX_TERMS];
        private final int[] b = new int[MAX_TERMS];
        private final int[] low = new int[MAX_TERMS];
        private final int[] high = new int[MAX_TERMS];
        private int made;

        void clear() {
            made = 0;
        }

        void start(int[] terms, Schema schema) {
            int k = 0;
            for (int i = 0; i < schema.count; i++) {
                if (schema.fields[i].sort == GROUP) {
                    terms[i] = NONE;
                } else {
                    terms[i] = simple(S, k);
                    k++;
                }
            }
        }

        boolean differ(int fields) {
            for (int i = 0; i < fields; i++) {
                if (byStep[i] != byWay[i]) {
                    return true;
                }
            }
            return false;
        }

        void takeOver(int[] terms, Step step, boolean forth) {
            int before = forth ? step.fieldsBefore : step.slotsBehind.length;
            for (int i = 0; i < before; i++) {
                slots[forth ? i : step.slotsBehind[i]] = terms[i];
            }
            for (int i = 0; i < step.count; i++) {
                if (forth) {
                    passForth(step.primitives[i]);
                } else {
                    passBack(step.primitives[step.count - 1 - i]);
                }
            }
            int behind = forth ? step.slotsBehind.length : step.fieldsBefore;
            for (int i = 0; i < behind; i++) {
                terms[i] = slots[forth ? step.slotsBehind[i] : i];
            }
        }

        private void passForth(Primitive p) {
            int t = slots[p.slot];
            switch (p.kind) {
                case ADD:
                    slots[p.slot] = defaultTerm(p);
                    break;
                case WRAP:
                    slots[p.slot] = simple(W, t);
                    break;
                case SPLIT:
                    split(p, t);
                    break;
                case SCALE:
                    slots[p.slot] = scaleForth(p, t);
                    break;
                case MAP:
                    slots[p.slot] = kind[t] == N ? simple(N, p.mapForth(first[t]))
                            : intern(P, t, 0, p.a, p.b, 0, 0);
                    break;
                case SORT:
                    slots[p.slot] = kind[t] == E || kind[t] == W || kind[t] == O ? t : simple(O, t);
                    break;
                default:
                    break;
            }
        }

        private void passBack(Primitive p) {
            int t = slots[p.slot];
            switch (p.kind) {
                case REMOVE:
                    slots[p.slot] = defaultTerm(p);
                    break;
                case WRAP:
                    slots[p.slot] = unwrap(p, t);
                    break;
                case SPLIT:
                    slots[p.slot] = join(p, t, slots[p.restSlot]);
                    break;
                case SCALE:
                    slots[p.slot] = scaleBack(p, t);
                    break;
                default:
                    break;
            }
        }

        private int defaultTerm(Primitive p) {
            if (p.sort == GROUP) {
                return NONE;
            }
            return p.sort == LIST ? simple(E, 0) : simple(N, p.defaultNumber());
        }

        private int unwrap(Primitive p, int t) {
            if (kind[t] == W) {
                return first[t];
            }
            return kind[t] == E ? simple(N, p.defaultNumber()) : simple(F, t);
        }

        private void split(Primitive p, int t) {
            if (kind[t] == N) {
                slots[p.slot] = simple(N, Math.floorDiv(first[t], p.a));
                slots[p.restSlot] = simple(N, Math.floorMod(first[t], p.a));
            } else if (kind[t] == J && a[t] == p.a) {
                slots[p.slot] = first[t];
                slots[p.restSlot] = second[t];
            } else {
                slots[p.slot] = intern(Q, t, 0, p.a, 0, 0, 0);
                slots[p.restSlot] = intern(R, t, 0, p.a, 0, 0, 0);
            }
        }

        private int join(Primitive p, int t, int u) {
            if (kind[t] == N && kind[u] == N) {
                return simple(N, first[t] * p.a + first[u]);
            }
            boolean parts = kind[t] == Q && kind[u] == R && first[t] == first[u]
                    && a[t] == p.a && a[u] == p.a;
            return parts ? first[t] : intern(J, t, u, p.a, 0, 0, 0);
        }

        private int scaleForth(Primitive p, int t) {
            if (p.a == p.b) {
                return t;
            }
            return kind[t] == N ? simple(N, p.scaleForth(first[t]))
                    : intern(M, t, 0, p.a, p.b, 0, 0);
        }

        private int scaleBack(Primitive p, int t) {
            if (p.a == p.b) {
                return t;
            }
            return kind[t] == N ? simple(N, p.scaleBack(first[t]))
                    : intern(B, t, 0, p.a, p.b, p.low, p.high);
        }

        private int simple(int k, int t) {
            return intern(k, t, 0, 0, 0, 0, 0);
        }

        private int intern(int k, int t, int u, int ka, int kb, int lo, int hi) {
            for (int i = 0; i < made; i++) {
                if (kind[i] == k && first[i] == t && second[i] == u && a[i] == ka && b[i] == kb
                        && low[i] == lo && high[i] == hi) {
                    return i;
                }
            }
            kind[made] = k;
            first[made] = t;
            second[made] = u;
            a[made] = ka;
            b[made] = kb;
            low[made] = lo;
            high[made] = hi;
            made++;
            return made - 1;
        }
    }
}
