import java.util.Arrays;

/**
 * A loader of catalogue records in batches, which can be undone and done again.
 *
 * All that is done is kept in its order; the catalogue of now is led along with
 * each call, and made anew from what is kept when a batch is undone or done again.
 */
public final class CatalogueLoader {
    private static final int SOURCES = 5;
    private static final int RANKS = 10;
    private static final int KEYS = 3;
    private static final int KEY_VALUES = 50;
    private static final int FIELDS = 4;
    private static final int FIELD_VALUES = 100;
    private static final int RULES = 3;
    private static final int MOST_BATCHES = 10;
    private static final int MOST_LOADS = 80;
    private static final int MOST_ACTS = 100;

    private static final int NONE = -1;
    private static final int REFUSED = -2;
    private static final int NO = 0;
    private static final int YES = 1;

    private static final int RULE_STAYS = 0;
    private static final int RULE_RANKS = 1;
    private static final int RULE_REPLACES = 2;

    private static final int STEP_LOAD = 0;
    private static final int STEP_PROTECT = 1;
    private static final int STEP_HOLD = 2;
    private static final int STEP_MERGE = 3;

    private final Settings settings;
    private final Loads taken;
    private final History history;
    private final Catalogue catalogue;
    private final Catalogue catalogueAnew;

    public CatalogueLoader() {
        settings = new Settings();
        taken = new Loads();
        history = new History();
        catalogue = new Catalogue();
        catalogueAnew = new Catalogue();
    }

    // ---- settings, while nothing was loaded

    public int setRank(int source, int rank)
            throws IndexOutOfBoundsException, IllegalArgumentException, IllegalStateException {
        needIndex(source, SOURCES);
        needValue(rank, 0, RANKS);
        needNothingLoaded();
        int before = settings.ranks.get(source);
        settings.ranks.set(source, rank);
        return before;
    }

    public int setRule(int field, int rule)
            throws IndexOutOfBoundsException, IllegalArgumentException, IllegalStateException {
        needIndex(field, FIELDS);
        needValue(rule, 0, RULES);
        needNothingLoaded();
        int before = settings.rules.get(field);
        settings.rules.set(field, rule);
        return before;
    }

    public void setOrder(int first, int second, int third)
            throws IllegalArgumentException, IllegalStateException {
        needValue(first, 0, KEYS);
        needValue(second, 0, KEYS);
        needValue(third, 0, KEYS);
        if (first == second || second == third || first == third) {
            throw new IllegalArgumentException("a key stands twice in the order");
        }
        needNothingLoaded();
        settings.order.set(0, first);
        settings.order.set(1, second);
        settings.order.set(2, third);
    }

    // ---- loading

    public int beginBatch() throws IllegalStateException {
        if (taken.batchCount >= MOST_BATCHES) {
            throw new IllegalStateException("no more batches");
        }
        return taken.begin();
    }

    public int key(int key, int value) throws IndexOutOfBoundsException, IllegalArgumentException {
        needIndex(key, KEYS);
        needValue(value, NONE, KEY_VALUES);
        int before = taken.keys.get(taken.count, key);
        taken.keys.set(taken.count, key, value);
        return before;
    }

    public int field(int field, int value) throws IndexOutOfBoundsException, IllegalArgumentException {
        needIndex(field, FIELDS);
        needValue(value, NONE, FIELD_VALUES);
        int before = taken.fields.get(taken.count, field);
        taken.fields.set(taken.count, field, value);
        return before;
    }

    public int load(int source) throws IndexOutOfBoundsException, IllegalStateException {
        needIndex(source, SOURCES);
        if (taken.batchCount == 0) {
            throw new IllegalStateException("no batch was begun");
        }
        if (taken.count >= MOST_LOADS) {
            throw new IllegalStateException("no more loads");
        }
        int load = taken.close(source);
        history.append(STEP_LOAD, load, NONE, NONE);
        return catalogue.take(settings, taken, load);
    }

    // ---- acts

    public boolean protect(int record, int field, boolean is)
            throws IndexOutOfBoundsException, IllegalStateException {
        needRecord(record);
        needIndex(field, FIELDS);
        needActLeft();
        int flag = is ? YES : NO;
        history.append(STEP_PROTECT, record, field, flag);
        return catalogue.guard(record, field, flag) == YES;
    }

    public int hold(int record) throws IndexOutOfBoundsException, IllegalStateException {
        needRecord(record);
        needActLeft();
        history.append(STEP_HOLD, record, NONE, NONE);
        return catalogue.addHoldings(record, 1);
    }

    public int merge(int record, int other)
            throws IndexOutOfBoundsException, IllegalArgumentException, IllegalStateException {
        needRecord(record);
        needRecord(other);
        if (record == other) {
            throw new IllegalArgumentException("a record is not merged into itself");
        }
        needActLeft();
        history.append(STEP_MERGE, record, other, NONE);
        return catalogue.join(record, other);
    }

    // ---- undoing

    public int undo(int batch, boolean undo) throws IndexOutOfBoundsException, IllegalStateException {
        needIndex(batch, taken.batchCount);
        int flag = undo ? YES : NO;
        if (taken.undone.get(batch) == flag) {
            throw new IllegalStateException("the batch is so already");
        }
        taken.undone.set(batch, flag);
        doAllAnew(catalogue);
        return catalogue.count();
    }

    // ---- what there is; nothing from here on changes anything

    public int batches() {
        return taken.batchCount;
    }

    public int loads() {
        return taken.count;
    }

    public int records() {
        return catalogue.count();
    }

    public boolean isUndone(int batch) throws IndexOutOfBoundsException {
        needIndex(batch, taken.batchCount);
        return taken.undone.get(batch) == YES;
    }

    public boolean isThere(int record) {
        return catalogue.has(record);
    }

    public int hit(int load) throws IndexOutOfBoundsException {
        needIndex(load, taken.count);
        return catalogue.hits.get(load);
    }

    public int keyOf(int record, int key) throws IndexOutOfBoundsException {
        needRecord(record);
        needIndex(key, KEYS);
        return catalogue.keys.get(record, key);
    }

    public int fieldOf(int record, int field) throws IndexOutOfBoundsException {
        needRecord(record);
        needIndex(field, FIELDS);
        return catalogue.fields.get(record, field);
    }

    public int sourceOf(int record, int field) throws IndexOutOfBoundsException {
        needRecord(record);
        needIndex(field, FIELDS);
        return catalogue.sources.get(record, field);
    }

    public int holdings(int record) throws IndexOutOfBoundsException {
        needRecord(record);
        return catalogue.held.get(record);
    }

    public int digest() {
        return catalogue.sum();
    }

    public int digestAnew() {
        doAllAnew(catalogueAnew);
        return catalogueAnew.sum();
    }

    // ---- what the calls of the face are made of

    private static void needIndex(int index, int bound) {
        if (index < 0 || index >= bound) {
            throw new IndexOutOfBoundsException("no such number");
        }
    }

    private static void needValue(int value, int least, int bound) {
        if (value < least || value >= bound) {
            throw new IllegalArgumentException("a value out of range");
        }
    }

    private void needRecord(int record) {
        if (!catalogue.has(record)) {
            throw new IndexOutOfBoundsException("no such record there");
        }
    }

    private void needNothingLoaded() {
        if (taken.count > 0) {
            throw new IllegalStateException("something was loaded");
        }
    }

    private void needActLeft() {
        if (history.acts() >= MOST_ACTS) {
            throw new IllegalStateException("no more acts");
        }
    }

    private void doAllAnew(Catalogue target) {
        target.clear();
        for (int step = 0; step < history.count; step++) {
            doStep(target, step);
        }
    }

    private void doStep(Catalogue target, int step) {
        int first = history.first.get(step);
        int second = history.second.get(step);
        switch (history.kinds.get(step)) {
            case STEP_LOAD:
                target.take(settings, taken, first);
                break;
            case STEP_PROTECT:
                target.guard(first, second, history.third.get(step));
                break;
            case STEP_HOLD:
                target.addHoldings(first, 1);
                break;
            case STEP_MERGE:
                target.join(first, second);
                break;
            default:
                break;
        }
    }

    /** A row of numbers that answers NONE outside of its length and keeps nothing there. */
    private static final class Row {
        private final int[] cells;

        Row(int length, int start) {
            cells = new int[Math.max(0, length)];
            Arrays.fill(cells, start);
        }

        int get(int index) {
            return index >= 0 && index < cells.length ? cells[index] : NONE;
        }

        void set(int index, int value) {
            if (index >= 0 && index < cells.length) {
                cells[index] = value;
            }
        }

        void fill(int value) {
            Arrays.fill(cells, value);
        }
    }

    /** Lines and columns of numbers, which answers and keeps as a row does. */
    private static final class Grid {
        private final int lines;
        private final int columns;
        private final int[] cells;

        Grid(int lines, int columns, int start) {
            this.lines = lines;
            this.columns = columns;
            cells = new int[Math.max(0, lines * columns)];
            Arrays.fill(cells, start);
        }

        int get(int line, int column) {
            if (line < 0 || line >= lines || column < 0 || column >= columns) {
                return NONE;
            }
            int index = line * columns + column;
            return index >= 0 && index < cells.length ? cells[index] : NONE;
        }

        void set(int line, int column, int value) {
            if (line < 0 || line >= lines || column < 0 || column >= columns) {
                return;
            }
            int index = line * columns + column;
            if (index >= 0 && index < cells.length) {
                cells[index] = value;
            }
        }

        void fill(int value) {
            Arrays.fill(cells, value);
        }
    }

    /** The ranks of the sources, the rules of the fields and the order of the keys. */
    private static final class Settings {
        private final Row ranks;
        private final Row rules;
        private final Row order;

        Settings() {
            ranks = new Row(SOURCES, 0);
            for (int source = 0; source < SOURCES; source++) {
                ranks.set(source, source);
            }
            rules = new Row(FIELDS, RULE_RANKS);
            order = new Row(KEYS, 0);
            for (int turn = 0; turn < KEYS; turn++) {
                order.set(turn, turn);
            }
        }

        boolean replaces(int field, int source, int sourceBefore) {
            switch (rules.get(field)) {
                case RULE_STAYS:
                    return false;
                case RULE_REPLACES:
                    return true;
                default:
                    return ranks.get(source) >= ranks.get(sourceBefore);
            }
        }
    }

    /**
     * The batches with their loads as they came, and behind the last load, in a line of its own,
     * the draft: a load closes that line, so that nothing is copied and the draft is empty again.
     */
    private static final class Loads {
        private final Grid keys;
        private final Grid fields;
        private final Row sources;
        private final Row batches;
        private final Row undone;
        private int count;
        private int batchCount;

        Loads() {
            keys = new Grid(MOST_LOADS + 1, KEYS, NONE);
            fields = new Grid(MOST_LOADS + 1, FIELDS, NONE);
            sources = new Row(MOST_LOADS, NONE);
            batches = new Row(MOST_LOADS, NONE);
            undone = new Row(MOST_BATCHES, NO);
            count = 0;
            batchCount = 0;
        }

        int begin() {
            int batch = batchCount;
            batchCount++;
            return batch;
        }

        int close(int source) {
            int load = count;
            sources.set(load, source);
            batches.set(load, batchCount - 1);
            count++;
            return load;
        }

        boolean isLeftOut(int load) {
            return undone.get(batches.get(load)) == YES;
        }
    }

    /** All loads and acts in the order in which they were made. */
    private static final class History {
        private final Row kinds;
        private final Row first;
        private final Row second;
        private final Row third;
        private int count;
        private int loadCount;

        History() {
            kinds = new Row(MOST_LOADS + MOST_ACTS, NONE);
            first = new Row(MOST_LOADS + MOST_ACTS, NONE);
            second = new Row(MOST_LOADS + MOST_ACTS, NONE);
            third = new Row(MOST_LOADS + MOST_ACTS, NONE);
            count = 0;
            loadCount = 0;
        }

        void append(int kind, int one, int two, int three) {
            kinds.set(count, kind);
            first.set(count, one);
            second.set(count, two);
            third.set(count, three);
            count++;
            if (kind == STEP_LOAD) {
                loadCount++;
            }
        }

        int acts() {
            return count - loadCount;
        }
    }

    /** The records, and what became of the loads. */
    private static final class Catalogue {
        private final Row there;
        private final Grid keys;
        private final Grid fields;
        private final Grid sources;
        private final Grid guards;
        private final Row held;
        private final Row hits;

        Catalogue() {
            there = new Row(MOST_LOADS, NO);
            keys = new Grid(MOST_LOADS, KEYS, NONE);
            fields = new Grid(MOST_LOADS, FIELDS, NONE);
            sources = new Grid(MOST_LOADS, FIELDS, NONE);
            guards = new Grid(MOST_LOADS, FIELDS, NO);
            held = new Row(MOST_LOADS, 0);
            hits = new Row(MOST_LOADS, NONE);
        }

        void clear() {
            there.fill(NO);
            keys.fill(NONE);
            fields.fill(NONE);
            sources.fill(NONE);
            guards.fill(NO);
            held.fill(0);
            hits.fill(NONE);
        }

        boolean has(int record) {
            return there.get(record) == YES;
        }

        int count() {
            int count = 0;
            for (int record = 0; record < MOST_LOADS; record++) {
                if (has(record)) {
                    count++;
                }
            }
            return count;
        }

        int take(Settings settings, Loads loads, int load) {
            int record = loads.isLeftOut(load) ? NONE : target(settings, loads, load);
            if (record >= 0) {
                // A record that is made was empty till now, so laying over gives it all of the draft.
                there.set(record, YES);
                layKeys(loads, load, record);
                layFields(settings, loads, load, record);
            }
            hits.set(load, record);
            return record;
        }

        private int target(Settings settings, Loads loads, int load) {
            for (int turn = 0; turn < KEYS; turn++) {
                int key = settings.order.get(turn);
                int found = find(key, loads.keys.get(load, key));
                if (found != NONE) {
                    return found;
                }
            }
            return load;
        }

        private int find(int key, int value) {
            if (value == NONE) {
                return NONE;
            }
            int found = NONE;
            for (int record = 0; record < MOST_LOADS; record++) {
                if (there.get(record) == YES && keys.get(record, key) == value) {
                    if (found != NONE) {
                        return REFUSED;
                    }
                    found = record;
                }
            }
            return found;
        }

        private void layKeys(Loads loads, int load, int record) {
            for (int key = 0; key < KEYS; key++) {
                if (keys.get(record, key) == NONE) {
                    keys.set(record, key, loads.keys.get(load, key));
                }
            }
        }

        private void layFields(Settings settings, Loads loads, int load, int record) {
            int source = loads.sources.get(load);
            for (int field = 0; field < FIELDS; field++) {
                int value = loads.fields.get(load, field);
                if (value != NONE && guards.get(record, field) == NO
                        && (fields.get(record, field) == NONE
                        || settings.replaces(field, source, sources.get(record, field)))) {
                    fields.set(record, field, value);
                    sources.set(record, field, source);
                }
            }
        }

        int guard(int record, int field, int flag) {
            if (!has(record)) {
                return NO;
            }
            int before = guards.get(record, field);
            guards.set(record, field, flag);
            return before;
        }

        int addHoldings(int record, int more) {
            if (!has(record)) {
                return 0;
            }
            held.set(record, held.get(record) + more);
            return held.get(record);
        }

        int join(int record, int other) {
            if (!has(record) || !has(other)) {
                return 0;
            }
            for (int key = 0; key < KEYS; key++) {
                if (keys.get(other, key) == NONE) {
                    keys.set(other, key, keys.get(record, key));
                }
            }
            for (int field = 0; field < FIELDS; field++) {
                if (fields.get(other, field) == NONE) {
                    fields.set(other, field, fields.get(record, field));
                    sources.set(other, field, sources.get(record, field));
                }
            }
            there.set(record, NO);
            return addHoldings(other, held.get(record));
        }

        int sum() {
            int sum = 0;
            for (int record = 0; record < MOST_LOADS; record++) {
                if (has(record)) {
                    sum += (1 + record) * values(record) + held.get(record);
                }
            }
            return sum;
        }

        private int values(int record) {
            int sum = 0;
            for (int key = 0; key < KEYS; key++) {
                sum += Math.max(0, keys.get(record, key));
            }
            for (int field = 0; field < FIELDS; field++) {
                sum += Math.max(0, fields.get(record, field));
            }
            return sum;
        }
    }
}
