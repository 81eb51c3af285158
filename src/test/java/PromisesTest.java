/** Each promise by itself: ordinary inputs, the edges that the document names, and wrong inputs. */
public final class PromisesTest {
    private static final String INDEX = "IndexOutOfBoundsException";
    private static final String ARGUMENT = "IllegalArgumentException";
    private static final String STATE = "IllegalStateException";

    private static int wrong = 0;

    private interface Call {
        Object answer();
    }

    private static void due(String what, Object want, Call call) {
        Object got;
        try {
            got = call.answer();
        } catch (RuntimeException e) {
            got = e.getClass().getSimpleName();
        }
        if (!want.equals(got)) {
            wrong++;
            System.out.println(what + " answered " + got + ", due is " + want);
        }
    }

    public static void main(String[] args) {
        newObject();
        setRank();
        setRankDecidesRuleOne();
        setRule();
        ruleZero();
        ruleOneAtFirst();
        ruleTwo();
        settingsAfterALoad();
        setOrder();
        orderDecides();
        beginBatch();
        draftKeys();
        draftFields();
        loadMatches();
        loadIsRefused();
        loadFillsKeys();
        loadWithoutKeys();
        loadEmptiesTheDraft();
        loadThrows();
        loadsAreCounted();
        protect();
        protectedStays();
        hold();
        merge();
        mergeAndProtection();
        mergeThrows();
        mergedRecordIsNoHit();
        actsAreCounted();
        undo();
        undoneAlthoughLaterTouched();
        undoPassesActsOver();
        undoKeepsNumbers();
        undoThrows();
        loadInUndoneBatch();
        refusedThenDoneAgain();
        readingThrows();
        sourceOf();
        digest();
        readingChangesNothing();
        System.out.println(wrong == 0 ? "all promises hold" : wrong + " wrong answers");
        System.exit(wrong == 0 ? 0 : 1);
    }

    // ---- short ways to load

    private static CatalogueLoader begun() {
        CatalogueLoader x = new CatalogueLoader();
        x.beginBatch();
        return x;
    }

    private static int load(CatalogueLoader x, int source, int key, int value, int field, int put) {
        x.key(key, value);
        x.field(field, put);
        return x.load(source);
    }

    private static int loadKeys(CatalogueLoader x, int first, int second, int third) {
        x.key(0, first);
        x.key(1, second);
        x.key(2, third);
        return x.load(0);
    }

    // ---- the promises

    private static void newObject() {
        CatalogueLoader x = new CatalogueLoader();
        due("new batches", 0, x::batches);
        due("new loads", 0, x::loads);
        due("new records", 0, x::records);
        due("new digest", 0, x::digest);
        due("new digestAnew", 0, x::digestAnew);
        due("new isThere", false, () -> x.isThere(0));
        CatalogueLoader y = begun();
        y.load(0);
        due("another new object's records", 0, () -> new CatalogueLoader().records());
        due("the first is not touched", 0, x::batches);
    }

    private static void setRank() {
        CatalogueLoader x = new CatalogueLoader();
        for (int source = 0; source < 5; source++) {
            int s = source;
            due("first rank", s, () -> x.setRank(s, 9));
            due("rank then", 9, () -> x.setRank(s, 0));
            due("rank then", 0, () -> x.setRank(s, s));
        }
        due("source -1", INDEX, () -> x.setRank(-1, 0));
        due("source 5", INDEX, () -> x.setRank(5, 0));
        due("source 5, rank 10", INDEX, () -> x.setRank(5, 10));
        due("rank -1", ARGUMENT, () -> x.setRank(0, -1));
        due("rank 10", ARGUMENT, () -> x.setRank(4, 10));
        due("least int", INDEX, () -> x.setRank(Integer.MIN_VALUE, 0));
        due("rank most int", ARGUMENT, () -> x.setRank(0, Integer.MAX_VALUE));
        due("what threw changed nothing", 0, () -> x.setRank(0, 0));
        due("what threw changed nothing", 4, () -> x.setRank(4, 4));
        x.beginBatch();
        due("in an empty batch", 4, () -> x.setRank(4, 4));
    }

    private static void setRankDecidesRuleOne() {
        CatalogueLoader x = new CatalogueLoader();
        x.setRank(0, 6);
        x.setRank(3, 5);
        x.beginBatch();
        load(x, 0, 0, 1, 0, 10);
        load(x, 3, 0, 1, 0, 11);
        due("lower rank", 10, () -> x.fieldOf(0, 0));
        due("lower rank, source", 0, () -> x.sourceOf(0, 0));
        CatalogueLoader y = new CatalogueLoader();
        y.setRank(4, 0);
        y.beginBatch();
        load(y, 0, 0, 1, 0, 10);
        load(y, 4, 0, 1, 0, 11);
        load(y, 0, 0, 1, 0, 12);
        due("same ranks", 12, () -> y.fieldOf(0, 0));
    }

    private static void setRule() {
        CatalogueLoader x = new CatalogueLoader();
        for (int field = 0; field < 4; field++) {
            int f = field;
            due("first rule", 1, () -> x.setRule(f, 2));
            due("rule then", 2, () -> x.setRule(f, 0));
            due("rule then", 0, () -> x.setRule(f, 1));
        }
        due("field -1", INDEX, () -> x.setRule(-1, 0));
        due("field 4", INDEX, () -> x.setRule(4, 0));
        due("field 4, rule 3", INDEX, () -> x.setRule(4, 3));
        due("rule -1", ARGUMENT, () -> x.setRule(0, -1));
        due("rule 3", ARGUMENT, () -> x.setRule(3, 3));
        due("what threw changed nothing", 1, () -> x.setRule(0, 1));
        due("what threw changed nothing", 1, () -> x.setRule(3, 1));
    }

    private static void ruleZero() {
        CatalogueLoader x = new CatalogueLoader();
        x.setRule(2, 0);
        x.beginBatch();
        load(x, 0, 0, 1, 3, 5);
        load(x, 0, 0, 1, 2, 10);
        due("none there", 10, () -> x.fieldOf(0, 2));
        load(x, 4, 0, 1, 2, 11);
        due("what is there stays", 10, () -> x.fieldOf(0, 2));
        due("its source stays", 0, () -> x.sourceOf(0, 2));
    }

    private static void ruleOneAtFirst() {
        CatalogueLoader x = begun();
        load(x, 2, 0, 1, 1, 10);
        load(x, 1, 0, 1, 1, 11);
        due("lower", 10, () -> x.fieldOf(0, 1));
        load(x, 2, 0, 1, 1, 12);
        due("not less", 12, () -> x.fieldOf(0, 1));
        load(x, 3, 0, 1, 1, 13);
        due("higher", 13, () -> x.fieldOf(0, 1));
        load(x, 2, 0, 1, 1, 14);
        due("against the source of now", 13, () -> x.fieldOf(0, 1));
        due("source of now", 3, () -> x.sourceOf(0, 1));
        x.key(0, 1);
        x.load(4);
        due("a draft without it", 13, () -> x.fieldOf(0, 1));
        load(x, 4, 0, 1, 1, 0);
        due("zero is a value", 0, () -> x.fieldOf(0, 1));
    }

    private static void ruleTwo() {
        CatalogueLoader x = new CatalogueLoader();
        x.setRule(3, 2);
        x.beginBatch();
        load(x, 4, 0, 1, 3, 10);
        load(x, 0, 0, 1, 3, 11);
        due("replaced", 11, () -> x.fieldOf(0, 3));
        due("source replaced", 0, () -> x.sourceOf(0, 3));
    }

    private static void settingsAfterALoad() {
        CatalogueLoader x = begun();
        x.load(0);
        due("rank", STATE, () -> x.setRank(0, 0));
        due("rank, source 5", INDEX, () -> x.setRank(5, 0));
        due("rank 10", ARGUMENT, () -> x.setRank(0, 10));
        due("rule", STATE, () -> x.setRule(0, 0));
        due("rule, field 4", INDEX, () -> x.setRule(4, 0));
        due("rule 3", ARGUMENT, () -> x.setRule(0, 3));
        due("order", STATE, () -> order(x, 0, 1, 2));
        due("order twice", ARGUMENT, () -> order(x, 0, 0, 2));
        x.undo(0, true);
        due("rank, though undone", STATE, () -> x.setRank(0, 0));
        CatalogueLoader y = begun();
        y.undo(0, true);
        y.load(0);
        due("rank, loaded in an undone batch", STATE, () -> y.setRank(0, 0));
        CatalogueLoader z = begun();
        load(z, 1, 0, 1, 0, 5);
        due("what threw changed nothing", STATE, () -> z.setRule(0, 2));
        load(z, 0, 0, 1, 0, 6);
        due("rule as it was", 5, () -> z.fieldOf(0, 0));
    }

    private static String order(CatalogueLoader x, int first, int second, int third) {
        x.setOrder(first, second, third);
        return "set";
    }

    private static void setOrder() {
        CatalogueLoader x = new CatalogueLoader();
        for (int code = 0; code < 125; code++) {
            int first = code / 25 - 1;
            int second = code / 5 % 5 - 1;
            int third = code % 5 - 1;
            boolean good = Math.min(first, Math.min(second, third)) == 0
                    && Math.max(first, Math.max(second, third)) == 2 && first + second + third == 3
                    && first != second;
            due("order " + first + second + third, good ? "set" : ARGUMENT,
                    () -> order(x, first, second, third));
        }
        due("order of far numbers", ARGUMENT, () -> order(x, Integer.MAX_VALUE, 1, Integer.MIN_VALUE));
    }

    private static void orderDecides() {
        int[][] orders = {{0, 1, 2}, {0, 2, 1}, {1, 0, 2}, {1, 2, 0}, {2, 0, 1}, {2, 1, 0}};
        for (int[] order : orders) {
            CatalogueLoader x = new CatalogueLoader();
            x.setOrder(order[0], order[1], order[2]);
            due("an order that throws", ARGUMENT, () -> order(x, 1, 1, 1));
            x.beginBatch();
            for (int key = 0; key < 3; key++) {
                x.key(key, 7);
                x.load(0);
            }
            due("all three", order[0], () -> loadKeys(x, 7, 7, 7));
            CatalogueLoader y = new CatalogueLoader();
            y.setOrder(order[0], order[1], order[2]);
            y.beginBatch();
            for (int key = 0; key < 3; key++) {
                y.key(key, 7);
                y.load(0);
            }
            y.key(order[1], 7);
            y.key(order[2], 7);
            due("the later two", order[1], () -> y.load(0));
            CatalogueLoader z = new CatalogueLoader();
            z.setOrder(order[0], order[1], order[2]);
            z.beginBatch();
            z.key(order[2], 7);
            z.load(0);
            z.key(order[2], 7);
            due("the last one", 0, () -> z.load(0));
        }
    }

    private static void beginBatch() {
        CatalogueLoader x = new CatalogueLoader();
        for (int batch = 0; batch < 10; batch++) {
            due("number of a batch", batch, x::beginBatch);
            due("batches", batch + 1, x::batches);
        }
        due("an eleventh", STATE, x::beginBatch);
        due("batches then", 10, x::batches);
        x.undo(9, true);
        due("an eleventh, though one is undone", STATE, x::beginBatch);
        due("the tenth is the one of now", -1, () -> x.load(0));
        x.undo(9, false);
        due("done again", 0, () -> x.hit(0));
    }

    private static void draftKeys() {
        CatalogueLoader x = new CatalogueLoader();
        for (int key = 0; key < 3; key++) {
            int k = key;
            due("none at first", -1, () -> x.key(k, 0));
            due("value before", 0, () -> x.key(k, 49));
            due("value before", 49, () -> x.key(k, -1));
            due("none before", -1, () -> x.key(k, 10 + k));
        }
        due("key -1", INDEX, () -> x.key(-1, 0));
        due("key 3", INDEX, () -> x.key(3, 0));
        due("key 3, value 50", INDEX, () -> x.key(3, 50));
        due("value 50", ARGUMENT, () -> x.key(2, 50));
        due("value -2", ARGUMENT, () -> x.key(0, -2));
        due("value most int", ARGUMENT, () -> x.key(0, Integer.MAX_VALUE));
        due("what threw changed nothing", 10, () -> x.key(0, 10));
        due("what threw changed nothing", 12, () -> x.key(2, 12));
        x.beginBatch();
        due("a batch leaves the draft", 0, () -> x.load(0));
        due("key 0", 10, () -> x.keyOf(0, 0));
        due("key 1", 11, () -> x.keyOf(0, 1));
        due("key 2", 12, () -> x.keyOf(0, 2));
    }

    private static void draftFields() {
        CatalogueLoader x = new CatalogueLoader();
        for (int field = 0; field < 4; field++) {
            int f = field;
            due("none at first", -1, () -> x.field(f, 0));
            due("value before", 0, () -> x.field(f, 99));
            due("value before", 99, () -> x.field(f, -1));
            due("none before", -1, () -> x.field(f, 20 + f));
        }
        due("field -1", INDEX, () -> x.field(-1, 0));
        due("field 4", INDEX, () -> x.field(4, 0));
        due("field 4, value 100", INDEX, () -> x.field(4, 100));
        due("value 100", ARGUMENT, () -> x.field(3, 100));
        due("value -2", ARGUMENT, () -> x.field(0, -2));
        due("what threw changed nothing", 20, () -> x.field(0, 20));
        due("what threw changed nothing", 23, () -> x.field(3, 23));
        due("keys are others", -1, () -> x.key(0, -1));
        x.beginBatch();
        x.load(4);
        for (int field = 0; field < 4; field++) {
            int f = field;
            due("field", 20 + f, () -> x.fieldOf(0, f));
            due("source", 4, () -> x.sourceOf(0, f));
        }
    }

    private static void loadMatches() {
        CatalogueLoader x = begun();
        due("made", 0, () -> loadKeys(x, 1, 2, 3));
        due("made", 1, () -> loadKeys(x, 4, 5, 6));
        due("by key 0", 0, () -> loadKeys(x, 1, 5, 6));
        due("by key 1, key 0 having no hits", 1, () -> loadKeys(x, 9, 5, 3));
        due("by key 2", 0, () -> loadKeys(x, -1, -1, 3));
        due("the same value in another key", 5, () -> loadKeys(x, 2, 3, 1));
        due("records", 3, x::records);
        due("loads", 6, x::loads);
        due("hit of a load", 1, () -> x.hit(3));
        due("hit of the load that made", 5, () -> x.hit(5));
        due("no number between", false, () -> x.isThere(2));
        due("value 0 is a value", 6, () -> loadKeys(x, 0, 0, 0));
        due("value 0 hits", 6, () -> loadKeys(x, -1, 0, -1));
    }

    private static void loadIsRefused() {
        CatalogueLoader x = begun();
        loadKeys(x, 1, -1, 8);
        loadKeys(x, 2, -1, 9);
        due("key 2 of record 0 stays", 0, () -> loadKeys(x, 1, -1, 9));
        due("key 2 of record 0 stays", 8, () -> x.keyOf(0, 2));
        loadKeys(x, -1, 5, -1);
        due("made", 3, () -> x.hit(3));
        due("key 1 comes to record 0", 0, () -> loadKeys(x, 1, 5, -1));
        x.field(0, 5);
        due("two hits", -2, () -> loadKeys(x, -1, 5, 9));
        due("hit of a refused load", -2, () -> x.hit(5));
        due("no record of it", false, () -> x.isThere(5));
        due("nothing was given", -1, () -> x.fieldOf(0, 0));
        due("nothing was given", -1, () -> x.fieldOf(1, 0));
        due("draft is emptied by a refused load", -1, () -> x.field(0, -1));
        due("several hits decide, too", -2, () -> loadKeys(x, 40, 5, 8));
        due("one hit of an earlier key", 1, () -> loadKeys(x, 2, 5, 8));
        due("three hits now", -2, () -> loadKeys(x, 30, 5, -1));
        due("records", 3, x::records);
    }

    private static void loadFillsKeys() {
        CatalogueLoader x = begun();
        loadKeys(x, 1, -1, -1);
        loadKeys(x, 1, 2, -1);
        due("given", 2, () -> x.keyOf(0, 1));
        loadKeys(x, 30, 2, 4);
        due("one that it has stays", 1, () -> x.keyOf(0, 0));
        due("given", 4, () -> x.keyOf(0, 2));
        loadKeys(x, 1, 40, 41);
        due("one that it has stays", 2, () -> x.keyOf(0, 1));
        due("one that it has stays", 4, () -> x.keyOf(0, 2));
        due("a key that was given hits", 0, () -> loadKeys(x, -1, -1, 4));
        due("one that was not given does not", 5, () -> loadKeys(x, 30, -1, -1));
    }

    private static void loadWithoutKeys() {
        CatalogueLoader x = begun();
        due("an empty draft", 0, () -> x.load(0));
        due("another one: none does not match none", 1, () -> x.load(0));
        due("records", 2, x::records);
        due("no key", -1, () -> x.keyOf(0, 0));
        due("no field", -1, () -> x.fieldOf(1, 3));
        due("no source", -1, () -> x.sourceOf(1, 3));
        due("no holdings", 0, () -> x.holdings(1));
        due("not protected", false, () -> x.protect(1, 0, false));
    }

    private static void loadEmptiesTheDraft() {
        CatalogueLoader x = begun();
        x.key(1, 3);
        x.field(2, 4);
        x.load(0);
        for (int key = 0; key < 3; key++) {
            int k = key;
            due("no key", -1, () -> x.key(k, -1));
        }
        for (int field = 0; field < 4; field++) {
            int f = field;
            due("no field", -1, () -> x.field(f, -1));
        }
        due("next draft", 1, () -> load(x, 0, 0, 5, 0, 6));
        due("the first record stays", 3, () -> x.keyOf(0, 1));
        due("the first record stays", -1, () -> x.keyOf(0, 0));
    }

    private static void loadThrows() {
        CatalogueLoader x = new CatalogueLoader();
        x.key(0, 5);
        due("no batch", STATE, () -> x.load(0));
        due("no batch, source 5", INDEX, () -> x.load(5));
        due("source -1", INDEX, () -> x.load(-1));
        due("loads", 0, x::loads);
        due("draft stays", 5, () -> x.key(0, 5));
        x.beginBatch();
        due("source 5", INDEX, () -> x.load(5));
        due("draft stays", 5, () -> x.key(0, 5));
        due("source 4", 0, () -> x.load(4));
    }

    private static void loadsAreCounted() {
        CatalogueLoader x = begun();
        for (int load = 0; load < 80; load++) {
            due("load", load, () -> x.load(0));
            due("loads", load + 1, x::loads);
        }
        due("draft", -1, () -> x.key(0, 7));
        due("draft", -1, () -> x.field(3, 8));
        due("an 81st", STATE, () -> x.load(0));
        due("an 81st, source 5", INDEX, () -> x.load(5));
        due("draft stays", 7, () -> x.key(0, -1));
        due("draft stays", 8, () -> x.field(3, -1));
        due("loads", 80, x::loads);
        due("records", 80, x::records);
        due("hit", 79, () -> x.hit(79));
        due("hit of none", INDEX, () -> x.hit(80));
        due("last record", true, () -> x.isThere(79));
        due("no record", false, () -> x.isThere(80));
        due("undone", 0, () -> x.undo(0, true));
        due("an 81st, though undone", STATE, () -> x.load(0));
        due("done again", 80, () -> x.undo(0, false));
    }

    private static void protect() {
        CatalogueLoader x = begun();
        x.load(0);
        x.load(0);
        for (int field = 0; field < 4; field++) {
            int f = field;
            due("not at first", false, () -> x.protect(0, f, true));
            due("protected", true, () -> x.protect(0, f, true));
            due("still", true, () -> x.protect(0, f, false));
            due("not any more", false, () -> x.protect(0, f, false));
        }
        x.protect(0, 1, true);
        due("another record", false, () -> x.protect(1, 1, false));
        due("no record", INDEX, () -> x.protect(2, 0, true));
        due("record -1", INDEX, () -> x.protect(-1, 0, true));
        due("field 4", INDEX, () -> x.protect(0, 4, true));
        due("field -1", INDEX, () -> x.protect(1, -1, true));
        due("far record", INDEX, () -> x.protect(Integer.MAX_VALUE, 0, true));
        due("what threw changed nothing", false, () -> x.protect(1, 0, false));
    }

    private static void protectedStays() {
        CatalogueLoader x = new CatalogueLoader();
        x.setRule(1, 2);
        x.beginBatch();
        load(x, 0, 0, 1, 0, 10);
        x.protect(0, 0, true);
        x.protect(0, 1, true);
        load(x, 4, 0, 1, 0, 11);
        load(x, 4, 0, 1, 1, 12);
        load(x, 4, 0, 1, 2, 13);
        due("value stays", 10, () -> x.fieldOf(0, 0));
        due("source stays", 0, () -> x.sourceOf(0, 0));
        due("none stays", -1, () -> x.fieldOf(0, 1));
        due("none stays, source", -1, () -> x.sourceOf(0, 1));
        due("others are given", 13, () -> x.fieldOf(0, 2));
        x.protect(0, 1, false);
        load(x, 1, 0, 1, 1, 14);
        due("not any more", 14, () -> x.fieldOf(0, 1));
        x.key(0, 1);
        x.key(1, 22);
        x.load(0);
        due("keys are given", 22, () -> x.keyOf(0, 1));
    }

    private static void hold() {
        CatalogueLoader x = begun();
        x.load(0);
        x.load(0);
        due("first", 1, () -> x.hold(1));
        due("second", 2, () -> x.hold(1));
        due("other", 0, () -> x.holdings(0));
        due("holdings", 2, () -> x.holdings(1));
        due("no record", INDEX, () -> x.hold(2));
        due("record -1", INDEX, () -> x.hold(-1));
        due("far record", INDEX, () -> x.hold(Integer.MIN_VALUE));
        x.undo(0, true);
        due("undone record", INDEX, () -> x.hold(1));
        due("undone record's holdings", INDEX, () -> x.holdings(1));
    }

    private static void merge() {
        CatalogueLoader x = begun();
        x.key(0, 1);
        x.field(0, 10);
        x.field(1, 11);
        x.load(3);
        x.key(0, 2);
        x.key(1, 3);
        x.key(2, 4);
        x.field(1, 21);
        x.field(2, 22);
        x.load(4);
        x.hold(0);
        x.hold(0);
        x.hold(1);
        due("holdings together", 3, () -> x.merge(1, 0));
        due("holdings", 3, () -> x.holdings(0));
        due("a key that it has", 1, () -> x.keyOf(0, 0));
        due("a key that it gets", 3, () -> x.keyOf(0, 1));
        due("a key that it gets", 4, () -> x.keyOf(0, 2));
        due("a field that it has", 10, () -> x.fieldOf(0, 0));
        due("a field that it has, whatever the ranks", 11, () -> x.fieldOf(0, 1));
        due("its source", 3, () -> x.sourceOf(0, 1));
        due("a field that it gets", 22, () -> x.fieldOf(0, 2));
        due("its source", 4, () -> x.sourceOf(0, 2));
        due("a field that none has", -1, () -> x.fieldOf(0, 3));
        due("its source", -1, () -> x.sourceOf(0, 3));
        due("gone", false, () -> x.isThere(1));
        due("gone", INDEX, () -> x.keyOf(1, 0));
        due("records", 1, x::records);
        due("hit stays", 1, () -> x.hit(1));
        due("loads stay", 2, x::loads);
    }

    private static void mergeAndProtection() {
        CatalogueLoader x = begun();
        load(x, 0, 0, 1, 0, 10);
        x.key(0, 2);
        x.field(0, 20);
        x.field(1, 21);
        x.field(2, 22);
        x.load(1);
        x.protect(0, 1, true);
        x.protect(1, 2, true);
        x.protect(1, 3, true);
        x.protect(0, 0, true);
        x.merge(1, 0);
        due("protected in both or one, has", 10, () -> x.fieldOf(0, 0));
        due("protected in the other, gets", 21, () -> x.fieldOf(0, 1));
        due("its source", 1, () -> x.sourceOf(0, 1));
        due("protected in the one, gets", 22, () -> x.fieldOf(0, 2));
        load(x, 4, 0, 1, 1, 50);
        due("still protected", 21, () -> x.fieldOf(0, 1));
        load(x, 4, 0, 1, 2, 51);
        due("protection is not got", 51, () -> x.fieldOf(0, 2));
        load(x, 4, 0, 1, 3, 52);
        due("protection is not got", 52, () -> x.fieldOf(0, 3));
        due("protected as it was", true, () -> x.protect(0, 1, true));
        due("not protected as it was", false, () -> x.protect(0, 2, true));
    }

    private static void mergeThrows() {
        CatalogueLoader x = begun();
        x.load(0);
        x.load(0);
        due("same", ARGUMENT, () -> x.merge(1, 1));
        due("no record", INDEX, () -> x.merge(2, 0));
        due("no other", INDEX, () -> x.merge(0, 2));
        due("same, none", INDEX, () -> x.merge(2, 2));
        due("record -1", INDEX, () -> x.merge(-1, 0));
        due("other -1", INDEX, () -> x.merge(0, -1));
        due("what threw changed nothing", 2, x::records);
        due("merged", 0, () -> x.merge(0, 1));
        due("again", INDEX, () -> x.merge(0, 1));
        due("into one that is gone", INDEX, () -> x.merge(1, 0));
        due("records", 1, x::records);
    }

    private static void mergedRecordIsNoHit() {
        CatalogueLoader x = begun();
        loadKeys(x, 1, 2, -1);
        loadKeys(x, 3, 4, -1);
        x.merge(0, 1);
        due("a key that did not move", 2, () -> loadKeys(x, 1, -1, -1));
        due("key that was there", 1, () -> loadKeys(x, -1, 4, -1));
        CatalogueLoader y = begun();
        loadKeys(y, 1, -1, -1);
        loadKeys(y, -1, 4, -1);
        y.merge(0, 1);
        due("a key that moved", 1, () -> loadKeys(y, 1, -1, -1));
    }

    private static void actsAreCounted() {
        CatalogueLoader x = begun();
        x.load(0);
        x.load(0);
        x.load(0);
        x.merge(2, 0);
        for (int act = 0; act < 30; act++) {
            x.protect(0, 0, false);
        }
        for (int act = 0; act < 69; act++) {
            due("hold", act + 1, () -> x.hold(0));
        }
        due("a 101st hold", STATE, () -> x.hold(0));
        due("a 101st protect", STATE, () -> x.protect(0, 1, true));
        due("a 101st merge", STATE, () -> x.merge(1, 0));
        due("no record", INDEX, () -> x.hold(2));
        due("no field", INDEX, () -> x.protect(0, 4, true));
        due("same", ARGUMENT, () -> x.merge(1, 1));
        due("no other", INDEX, () -> x.merge(1, 2));
        due("what threw changed nothing", 69, () -> x.holdings(0));
        due("what threw changed nothing", 2, x::records);
        x.undo(0, true);
        x.undo(0, false);
        due("undone and done again, still a 101st", STATE, () -> x.hold(0));
        due("holdings again", 69, () -> x.holdings(0));
        due("loads are no acts", 3, () -> x.load(0));
        CatalogueLoader y = begun();
        y.load(0);
        for (int act = 0; act < 99; act++) {
            y.hold(0);
        }
        due("throwing is no act", INDEX, () -> y.hold(1));
        due("the 100th", 100, () -> y.hold(0));
    }

    private static void undo() {
        CatalogueLoader x = begun();
        load(x, 0, 0, 1, 0, 10);
        x.beginBatch();
        load(x, 1, 0, 1, 0, 20);
        load(x, 1, 0, 2, 0, 30);
        due("undone", 1, () -> x.undo(1, true));
        due("is undone", true, () -> x.isUndone(1));
        due("the other is not", false, () -> x.isUndone(0));
        due("value before", 10, () -> x.fieldOf(0, 0));
        due("source before", 0, () -> x.sourceOf(0, 0));
        due("record of it", false, () -> x.isThere(2));
        due("hit of it", -1, () -> x.hit(1));
        due("hit of it", -1, () -> x.hit(2));
        due("done again", 2, () -> x.undo(1, false));
        due("is done again", false, () -> x.isUndone(1));
        due("value again", 20, () -> x.fieldOf(0, 0));
        due("hit again", 0, () -> x.hit(1));
        due("hit again", 2, () -> x.hit(2));
    }

    private static void undoneAlthoughLaterTouched() {
        CatalogueLoader x = begun();
        load(x, 0, 0, 1, 0, 10);
        x.beginBatch();
        x.key(0, 1);
        x.key(1, 5);
        x.field(0, 20);
        x.load(2);
        x.beginBatch();
        load(x, 1, 1, 5, 0, 30);
        due("rank kept it out", 20, () -> x.fieldOf(0, 0));
        due("undone", 2, () -> x.undo(1, true));
        due("the later load makes a record", 2, () -> x.hit(2));
        due("its value", 30, () -> x.fieldOf(2, 0));
        due("done again", 1, () -> x.undo(1, false));
        due("the later load hits again", 0, () -> x.hit(2));
    }

    private static void undoPassesActsOver() {
        CatalogueLoader x = begun();
        load(x, 0, 0, 1, 0, 10);
        x.beginBatch();
        load(x, 0, 0, 2, 1, 20);
        x.hold(1);
        x.protect(1, 1, true);
        x.merge(1, 0);
        x.hold(0);
        due("undone", 1, () -> x.undo(1, true));
        due("merge passed over", 1, () -> x.holdings(0));
        due("merge passed over", -1, () -> x.keyOf(0, 1));
        due("merge passed over", -1, () -> x.fieldOf(0, 1));
        due("done again", 1, () -> x.undo(1, false));
        due("merge done", 2, () -> x.holdings(0));
        due("merge done", 20, () -> x.fieldOf(0, 1));
        due("other one undone", 1, () -> x.undo(0, true));
        due("not merged away", true, () -> x.isThere(1));
        due("its holdings", 1, () -> x.holdings(1));
        due("its protection", true, () -> x.protect(1, 1, false));
        due("done again", 1, () -> x.undo(0, false));
        due("the act on a record that is gone is passed over", 2, () -> x.holdings(0));
        due("other one undone", 1, () -> x.undo(0, true));
        due("the act counts again", false, () -> x.protect(1, 1, false));
    }

    private static void undoKeepsNumbers() {
        CatalogueLoader x = begun();
        load(x, 0, 0, 1, 0, 10);
        x.beginBatch();
        x.undo(0, true);
        due("loads", 1, x::loads);
        due("batches", 2, x::batches);
        due("next load", 1, () -> load(x, 0, 0, 1, 0, 20));
        due("next record", 1, () -> x.hit(1));
        x.undo(0, false);
        due("earlier load first", 0, () -> x.hit(1));
        due("records", 1, x::records);
    }

    private static void undoThrows() {
        CatalogueLoader x = new CatalogueLoader();
        due("no batch", INDEX, () -> x.undo(0, true));
        x.beginBatch();
        x.load(0);
        due("batch 1", INDEX, () -> x.undo(1, true));
        due("batch -1", INDEX, () -> x.undo(-1, false));
        due("not undone", STATE, () -> x.undo(0, false));
        due("what threw changed nothing", 1, x::records);
        x.undo(0, true);
        due("undone", STATE, () -> x.undo(0, true));
        due("what threw changed nothing", true, () -> x.isUndone(0));
        due("isUndone 1", INDEX, () -> x.isUndone(1));
        due("isUndone -1", INDEX, () -> x.isUndone(-1));
    }

    private static void loadInUndoneBatch() {
        CatalogueLoader x = begun();
        load(x, 0, 0, 1, 0, 10);
        x.undo(0, true);
        due("load", -1, () -> load(x, 1, 0, 1, 0, 20));
        due("draft is emptied", -1, () -> x.key(0, -1));
        due("hit", -1, () -> x.hit(1));
        due("loads", 2, x::loads);
        due("records", 0, x::records);
        due("done again", 1, () -> x.undo(0, false));
        due("hit again", 0, () -> x.hit(1));
        due("value", 20, () -> x.fieldOf(0, 0));
        x.undo(0, true);
        x.beginBatch();
        due("in the next batch", 2, () -> load(x, 0, 0, 1, 0, 30));
    }

    private static void refusedThenDoneAgain() {
        CatalogueLoader x = begun();
        loadKeys(x, 1, -1, -1);
        x.beginBatch();
        loadKeys(x, -1, 3, -1);
        x.beginBatch();
        loadKeys(x, 1, 3, -1);
        due("refused", -2, () -> loadKeys(x, -1, 3, -1));
        x.undo(1, true);
        due("one hit", 0, () -> x.hit(3));
        x.undo(1, false);
        due("refused again", -2, () -> x.hit(3));
        x.undo(2, true);
        due("undone and refused before", -1, () -> x.hit(3));
    }

    private static void readingThrows() {
        CatalogueLoader x = begun();
        load(x, 0, 0, 1, 0, 10);
        due("hit -1", INDEX, () -> x.hit(-1));
        due("hit 1", INDEX, () -> x.hit(1));
        due("key -1", INDEX, () -> x.keyOf(0, -1));
        due("key 3", INDEX, () -> x.keyOf(0, 3));
        due("key of none", INDEX, () -> x.keyOf(1, 0));
        due("key of -1", INDEX, () -> x.keyOf(-1, 0));
        due("field -1", INDEX, () -> x.fieldOf(0, -1));
        due("field 4", INDEX, () -> x.fieldOf(0, 4));
        due("field of none", INDEX, () -> x.fieldOf(1, 0));
        due("field of far", INDEX, () -> x.fieldOf(Integer.MAX_VALUE, 0));
        due("source -1", INDEX, () -> x.sourceOf(0, -1));
        due("source 4", INDEX, () -> x.sourceOf(0, 4));
        due("source of none", INDEX, () -> x.sourceOf(1, 0));
        due("holdings of none", INDEX, () -> x.holdings(1));
        due("holdings of -1", INDEX, () -> x.holdings(-1));
        due("isThere", true, () -> x.isThere(0));
        due("isThere -1", false, () -> x.isThere(-1));
        due("isThere 1", false, () -> x.isThere(1));
        due("isThere far", false, () -> x.isThere(Integer.MAX_VALUE));
        due("isThere far", false, () -> x.isThere(Integer.MIN_VALUE));
    }

    private static void sourceOf() {
        CatalogueLoader x = begun();
        load(x, 3, 0, 1, 0, 0);
        due("source", 3, () -> x.sourceOf(0, 0));
        due("no value", -1, () -> x.sourceOf(0, 1));
        load(x, 0, 0, 1, 1, 5);
        due("source 0", 0, () -> x.sourceOf(0, 1));
        x.beginBatch();
        load(x, 2, 0, 1, 2, 6);
        x.undo(1, true);
        due("no value any more", -1, () -> x.sourceOf(0, 2));
    }

    private static void digest() {
        CatalogueLoader x = begun();
        x.key(0, 3);
        x.key(2, 4);
        x.field(0, 10);
        x.field(3, 99);
        x.load(0);
        due("record 0 times 1", 116, x::digest);
        load(x, 0, 0, 8, 2, 7);
        due("record 1 times 2", 146, x::digest);
        x.hold(1);
        x.hold(1);
        due("holdings as they are", 148, x::digest);
        due("anew", 148, x::digestAnew);
        x.merge(1, 0);
        due("merged", 125, x::digest);
        due("anew", 125, x::digestAnew);
        x.undo(0, true);
        due("undone", 0, x::digest);
        due("anew", 0, x::digestAnew);
        x.undo(0, false);
        due("again", 125, x::digest);
        due("anew", 125, x::digestAnew);
    }

    private static void readingChangesNothing() {
        CatalogueLoader x = begun();
        load(x, 0, 0, 1, 0, 10);
        x.hold(0);
        x.protect(0, 0, true);
        x.key(1, 6);
        x.digestAnew();
        x.digestAnew();
        x.digest();
        due("records", 1, x::records);
        due("holdings", 1, () -> x.holdings(0));
        due("hit", 0, () -> x.hit(0));
        due("draft", 6, () -> x.key(1, 6));
        due("protected", true, () -> x.protect(0, 0, true));
    }
}
