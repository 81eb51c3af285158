import java.lang.reflect.InvocationTargetException;
import java.lang.reflect.Method;
import java.lang.reflect.Modifier;
import java.util.ArrayList;
import java.util.Arrays;
import java.util.List;
import java.util.Map;
import java.util.TreeMap;

/**
 * A test of its own for each sentence of the document that names a boundary case: an edge has
 * that sentence's words, and the calls that would answer otherwise if it were broken.
 *
 * Wherever a call is refused, what stands behind it is compared with an object to which the same
 * was done but for that call, so that no refused call is taken to have changed nothing unseen.
 */
public final class EdgesTest {
    private static final String INDEX = "IndexOutOfBoundsException";
    private static final String ARGUMENT = "IllegalArgumentException";
    private static final String STATE = "IllegalStateException";

    private static final int LEAST = Integer.MIN_VALUE;
    private static final int MOST = Integer.MAX_VALUE;
    private static final int MOST_CALLS = 512;

    private static final Map<String, Method> FACE = new TreeMap<>();

    private static int edges = 0;
    private static int wrong = 0;

    public static void main(String[] args) {
        for (Method method : CatalogueLoader.class.getDeclaredMethods()) {
            if (Modifier.isPublic(method.getModifiers())) {
                FACE.put(method.getName(), method);
            }
        }
        newObject();
        sources();
        ranks();
        ranksAtFirst();
        settingsWhileNothingWasLoaded();
        settingsInTurnOfExceptions();
        rules();
        ruleZero();
        ruleOne();
        ruleTwo();
        order();
        orderAtFirst();
        batches();
        batchOfNow();
        draftKeys();
        draftFields();
        draftIsEmptied();
        loadSources();
        loadNumbers();
        loadsAreFull();
        loadThrows();
        hitsOfAKey();
        hitsAreThere();
        firstKeyWithHitsDecides();
        severalHits();
        recordIsMade();
        recordNumbers();
        keysAreGiven();
        fieldsAreGiven();
        protectedFields();
        protect();
        protectEachFieldOfEachRecord();
        hold();
        mergeHoldings();
        mergeKeys();
        mergeFields();
        mergeWhetherProtected();
        mergedIsNotThere();
        mergeRefused();
        actsAreFull();
        actsThatCount();
        undoAnswers();
        undoRefused();
        orderOfWhatWasDone();
        passedOver();
        numbersStay();
        undoneBatchOfNow();
        isUndone();
        isThere();
        hit();
        recordNumberThrows();
        readers();
        counts();
        digest();
        digestAnew();
        readersChangeNothing();
        fullObject();
        System.out.println(wrong == 0 ? edges + " edges hold" : wrong + " wrong answers");
        System.exit(wrong == 0 ? 0 : 1);
    }

    // ---- promise 1

    private static void newObject() {
        edge("No records, batches, loads and acts.")
                .due(0, "records").due(0, "batches").due(0, "loads").due(0, "digest").due(0, "digestAnew")
                .due(false, "isThere", 0).due(INDEX, "isUndone", 0).due(INDEX, "hit", 0)
                .due(INDEX, "undo", 0, true).due(INDEX, "undo", 0, false).due(STATE, "load", 0)
                .due(INDEX, "hold", 0).due(INDEX, "protect", 0, 0, true).due(INDEX, "merge", 0, 0)
                .due(INDEX, "merge", 0, 1).due(INDEX, "keyOf", 0, 0).due(INDEX, "fieldOf", 0, 0)
                .due(INDEX, "sourceOf", 0, 0).due(INDEX, "holdings", 0);
    }

    // ---- promises 2 to 4: settings

    private static void sources() {
        Run run = edge("setRank, source: 0 to 4");
        for (int source = 0; source < 5; source++) {
            run.due(source, "setRank", source, source);
        }
        run.due(INDEX, "setRank", -1, 0).due(INDEX, "setRank", 5, 0);
        run.due(INDEX, "setRank", LEAST, 0).due(INDEX, "setRank", MOST, 0);
    }

    private static void ranks() {
        edge("setRank, rank: 0 to 9")
                .due(0, "setRank", 0, 0).due(0, "setRank", 0, 9).due(9, "setRank", 0, 9)
                .due(ARGUMENT, "setRank", 0, -1).due(ARGUMENT, "setRank", 0, 10)
                .due(ARGUMENT, "setRank", 4, LEAST).due(ARGUMENT, "setRank", 4, MOST)
                .due(9, "setRank", 0, 0).due(4, "setRank", 4, 4);
        edge("Returns the rank before.")
                .due(2, "setRank", 2, 7).due(3, "setRank", 3, 8).due(7, "setRank", 2, 7).due(7, "setRank", 2, 1)
                .due(1, "setRank", 2, 2).due(1, "setRank", 1, 1).due(8, "setRank", 3, 3);
        for (int rank = 8; rank < 10; rank++) {
            edge("rank: 0 to 9, where ranks are compared")
                    .does("setRank", 4, rank).does("setRank", 0, 9).does("beginBatch")
                    .keys(1).fields(10).due(0, "load", 0)
                    .keys(1).fields(11).due(0, "load", 4)
                    .due(rank == 9 ? 11 : 10, "fieldOf", 0, 0);
        }
    }

    private static void ranksAtFirst() {
        for (int first = 0; first < 5; first++) {
            for (int next = 0; next < 5; next++) {
                edge("each with a rank, 0 to 9, at first its number")
                        .does("beginBatch")
                        .keys(1).fields(10).due(0, "load", first)
                        .keys(1).fields(11).due(0, "load", next)
                        .due(next >= first ? 11 : 10, "fieldOf", 0, 0)
                        .due(Math.max(first, next), "sourceOf", 0, 0);
            }
        }
    }

    private static void settingsWhileNothingWasLoaded() {
        edge("---- settings, while nothing was loaded: a batch and a draft are no load")
                .does("beginBatch").keys(1).fields(2).does("undo", 0, true)
                .due(0, "setRank", 0, 3).due(1, "setRule", 0, 2).due(null, "setOrder", 2, 1, 0)
                .does("undo", 0, false).due(3, "setRank", 0, 0).due(2, "setRule", 0, 1)
                .due(null, "setOrder", 0, 1, 2);
        edge("while nothing was loaded: a load that throws is no load")
                .due(STATE, "load", 0).does("beginBatch").due(INDEX, "load", 5)
                .due(0, "setRank", 0, 3).due(1, "setRule", 0, 2).due(null, "setOrder", 2, 1, 0);
        edge("Throws IllegalStateException if something was loaded")
                .does("beginBatch").due(0, "load", 0)
                .due(STATE, "setRank", 0, 0).due(STATE, "setRank", 0, 9).due(STATE, "setRank", 4, 0)
                .due(STATE, "setRule", 0, 1).due(STATE, "setRule", 0, 0).due(STATE, "setRule", 3, 2)
                .due(STATE, "setOrder", 0, 1, 2).due(STATE, "setOrder", 2, 1, 0).due(STATE, "setOrder", 0, 2, 1);
        edge("if something was loaded: it was, though its batch is undone")
                .does("beginBatch").due(0, "load", 0).due(0, "undo", 0, true)
                .due(STATE, "setRank", 0, 0).due(STATE, "setRule", 0, 1).due(STATE, "setOrder", 2, 1, 0);
        edge("if something was loaded: it was, in a batch that was undone")
                .does("beginBatch").due(0, "undo", 0, true).due(-1, "load", 0)
                .due(STATE, "setRank", 0, 0).due(STATE, "setRule", 0, 1).due(STATE, "setOrder", 2, 1, 0);
    }

    private static void settingsInTurnOfExceptions() {
        edge("the one that is named first is thrown: setRank")
                .due(INDEX, "setRank", 5, 10).due(INDEX, "setRank", -1, -1)
                .does("beginBatch").does("load", 0)
                .due(INDEX, "setRank", 5, 0).due(INDEX, "setRank", -1, 10).due(ARGUMENT, "setRank", 0, 10)
                .due(ARGUMENT, "setRank", 4, -1);
        edge("the one that is named first is thrown: setRule")
                .due(INDEX, "setRule", 4, 3).due(INDEX, "setRule", -1, -1)
                .does("beginBatch").does("load", 0)
                .due(INDEX, "setRule", 4, 0).due(INDEX, "setRule", -1, 3).due(ARGUMENT, "setRule", 0, 3)
                .due(ARGUMENT, "setRule", 3, -1);
        edge("the one that is named first is thrown: setOrder")
                .does("beginBatch").does("load", 0)
                .due(ARGUMENT, "setOrder", 0, 0, 2).due(ARGUMENT, "setOrder", 0, 1, 3)
                .due(ARGUMENT, "setOrder", -1, 1, 2);
    }

    private static void rules() {
        Run run = edge("setRule, field: 0 to 3; each rule 1 at first");
        for (int field = 0; field < 4; field++) {
            run.due(1, "setRule", field, 1);
        }
        run.due(INDEX, "setRule", -1, 1).due(INDEX, "setRule", 4, 1);
        run.due(INDEX, "setRule", LEAST, 1).due(INDEX, "setRule", MOST, 1);
        edge("setRule, rule: 0 to 2")
                .due(1, "setRule", 3, 0).due(0, "setRule", 3, 2)
                .due(ARGUMENT, "setRule", 3, -1).due(ARGUMENT, "setRule", 3, 3)
                .due(ARGUMENT, "setRule", 0, LEAST).due(ARGUMENT, "setRule", 0, MOST)
                .due(2, "setRule", 3, 2).due(1, "setRule", 0, 1);
        edge("Returns the rule before.")
                .due(1, "setRule", 1, 2).due(1, "setRule", 2, 0).due(2, "setRule", 1, 2).due(0, "setRule", 2, 1)
                .due(2, "setRule", 1, 0).due(0, "setRule", 1, 1);
        for (int field = 0; field < 4; field++) {
            Run each = edge("Each field has a rule: that of field " + field + " is set alone")
                    .does("setRule", field, 2).does("beginBatch")
                    .keys(1).fields(1, 2, 3, 4).does("load", 4)
                    .keys(1).fields(5, 6, 7, 8).does("load", 0);
            for (int other = 0; other < 4; other++) {
                each.due(other == field ? 5 + other : 1 + other, "fieldOf", 0, other);
                each.due(other == field ? 0 : 4, "sourceOf", 0, other);
            }
        }
    }

    private static void ruleZero() {
        edge("0, a value that is there stays")
                .does("setRule", 0, 0).does("setRank", 4, 9).does("beginBatch")
                .keys(1).does("load", 0).due(-1, "fieldOf", 0, 0)
                .keys(1).fields(0).does("load", 0).due(0, "fieldOf", 0, 0).due(0, "sourceOf", 0, 0)
                .keys(1).fields(9).does("load", 0).due(0, "fieldOf", 0, 0)
                .keys(1).fields(9).does("load", 4).due(0, "fieldOf", 0, 0).due(0, "sourceOf", 0, 0);
    }

    private static void ruleOne() {
        edge("1, if the rank of its source is not less than the rank of the source of the other one")
                .does("setRank", 0, 5).does("setRank", 1, 4).does("setRank", 2, 5).does("setRank", 3, 6)
                .does("beginBatch")
                .keys(1).fields(50).does("load", 0)
                .keys(1).fields(51).does("load", 1).due(50, "fieldOf", 0, 0).due(0, "sourceOf", 0, 0)
                .keys(1).fields(52).does("load", 2).due(52, "fieldOf", 0, 0).due(2, "sourceOf", 0, 0)
                .keys(1).fields(53).does("load", 0).due(53, "fieldOf", 0, 0).due(0, "sourceOf", 0, 0)
                .keys(1).fields(54).does("load", 0).due(54, "fieldOf", 0, 0)
                .keys(1).fields(55).does("load", 3).due(55, "fieldOf", 0, 0).due(3, "sourceOf", 0, 0)
                .keys(1).fields(56).does("load", 2).due(55, "fieldOf", 0, 0).due(3, "sourceOf", 0, 0);
        edge("the source from which the other one came: field by field")
                .does("beginBatch")
                .keys(1).fields(10).does("load", 3)
                .keys(1).fields(-1, 20).does("load", 1)
                .keys(1).fields(11, 21).does("load", 2)
                .due(10, "fieldOf", 0, 0).due(3, "sourceOf", 0, 0)
                .due(21, "fieldOf", 0, 1).due(2, "sourceOf", 0, 1);
    }

    private static void ruleTwo() {
        edge("2, it replaces it whatever the ranks")
                .does("setRule", 3, 2).does("setRank", 4, 9).does("beginBatch")
                .keys(1).fields(-1, -1, -1, 99).does("load", 4)
                .keys(1).fields(-1, -1, -1, 0).does("load", 0).due(0, "fieldOf", 0, 3).due(0, "sourceOf", 0, 3)
                .keys(1).fields(-1, -1, -1, 1).does("load", 4).due(1, "fieldOf", 0, 3).due(4, "sourceOf", 0, 3)
                .keys(1).does("load", 0).due(1, "fieldOf", 0, 3).due(4, "sourceOf", 0, 3);
    }

    private static void order() {
        int[][] good = {{0, 1, 2}, {0, 2, 1}, {1, 0, 2}, {1, 2, 0}, {2, 0, 1}, {2, 1, 0}};
        for (int[] turn : good) {
            edge("setOrder, all three unlike: " + Arrays.toString(turn))
                    .due(null, "setOrder", turn[0], turn[1], turn[2]).does("beginBatch")
                    .keys(7).due(0, "load", 0).keys(-1, 7).due(1, "load", 0).keys(-1, -1, 7).due(2, "load", 0)
                    .does("key", turn[2], 7).due(turn[2], "load", 0)
                    .does("key", turn[2], 7).does("key", turn[1], 7).due(turn[1], "load", 0)
                    .keys(7, 7, 7).due(turn[0], "load", 0);
        }
        int[][] bad = {{0, 0, 2}, {0, 1, 0}, {0, 1, 1}, {1, 1, 1}, {2, 2, 1}, {2, 0, 2},
            {-1, 1, 2}, {0, -1, 2}, {0, 1, -1}, {3, 1, 2}, {0, 3, 2}, {0, 1, 3},
            {3, 0, 0}, {-1, 2, 2}, {MOST, 1, 2}, {0, LEAST, 2}, {0, 1, MOST}};
        for (int[] turn : bad) {
            edge("if they are not the keys 0, 1 and 2: " + Arrays.toString(turn))
                    .due(ARGUMENT, "setOrder", turn[0], turn[1], turn[2])
                    .does("setOrder", 2, 0, 1).due(ARGUMENT, "setOrder", turn[0], turn[1], turn[2]);
        }
    }

    private static void orderAtFirst() {
        edge("Keys are tried in an order, 0, 1, 2 at first.")
                .does("beginBatch")
                .keys(7).due(0, "load", 0).keys(-1, 7).due(1, "load", 0).keys(-1, -1, 7).due(2, "load", 0)
                .keys(-1, 7, 7).due(1, "load", 0).keys(7, -1, 7).due(0, "load", 0).keys(7, 7, -1).due(0, "load", 0);
    }

    // ---- promise 5: beginBatch

    private static void batches() {
        Run run = edge("batches are numbered from 0 on, at most 10");
        for (int batch = 0; batch < 10; batch++) {
            run.due(batch, "beginBatch").due(batch + 1, "batches").due(INDEX, "isUndone", batch + 1);
        }
        run.due(STATE, "beginBatch").due(10, "batches").due(INDEX, "isUndone", 10).due(INDEX, "undo", 10, true);
        run.due(0, "undo", 9, true).due(STATE, "beginBatch").due(0, "undo", 0, true).due(STATE, "beginBatch");
        edge("without one nothing can be loaded")
                .keys(1).fields(2).due(STATE, "load", 0).due(0, "loads").due(INDEX, "hit", 0)
                .due(0, "beginBatch").due(0, "load", 0).due(1, "keyOf", 0, 0).due(2, "fieldOf", 0, 0);
    }

    private static void batchOfNow() {
        edge("Begins a batch, which is the one of now.")
                .does("beginBatch").due(0, "load", 0).does("beginBatch").due(1, "load", 0)
                .due(1, "undo", 0, true).due(false, "isThere", 0).due(true, "isThere", 1)
                .due(2, "load", 0).due(3, "undo", 0, false)
                .due(1, "undo", 1, true).due(true, "isThere", 0).due(false, "isThere", 1).due(false, "isThere", 2);
        Run tenth = edge("Throws IllegalStateException if there are 10: the tenth stays the one of now");
        for (int batch = 0; batch < 10; batch++) {
            tenth.does("beginBatch");
        }
        tenth.due(STATE, "beginBatch").due(0, "load", 0).due(1, "undo", 8, true).due(0, "undo", 9, true);
        edge("a batch that is begun leaves the draft")
                .keys(1, 2, 3).fields(4, 5, 6, 7).does("beginBatch").does("beginBatch").due(0, "load", 0)
                .due(1, "keyOf", 0, 0).due(3, "keyOf", 0, 2).due(4, "fieldOf", 0, 0).due(7, "fieldOf", 0, 3);
    }

    // ---- promises 6 and 7: the draft

    private static void draftKeys() {
        Run run = edge("A draft has keys: 0 to 2; at first it has none");
        for (int key = 0; key < 3; key++) {
            run.due(-1, "key", key, -1).due(-1, "key", key, 10 + key).due(10 + key, "key", key, 10 + key);
        }
        run.due(INDEX, "key", -1, 0).due(INDEX, "key", 3, 0).due(INDEX, "key", LEAST, 0).due(INDEX, "key", MOST, 0);
        run.due(10, "key", 0, 10).due(11, "key", 1, 11).due(12, "key", 2, 12);
        edge("key, value: 0 to 49; -1 for none")
                .due(-1, "key", 2, 0).due(0, "key", 2, 49).due(49, "key", 2, -1).due(-1, "key", 2, 49)
                .due(ARGUMENT, "key", 2, 50).due(ARGUMENT, "key", 2, -2)
                .due(ARGUMENT, "key", 0, LEAST).due(ARGUMENT, "key", 0, MOST).due(49, "key", 2, 0)
                .due(-1, "key", 0, -1);
        edge("the one that is named first is thrown: key")
                .due(INDEX, "key", 3, 50).due(INDEX, "key", -1, -2);
        edge("A record has the keys 0 to 2, each with a value, 0 to 49, or none")
                .does("beginBatch").keys(0, 49, -1).due(0, "load", 0)
                .due(0, "keyOf", 0, 0).due(49, "keyOf", 0, 1).due(-1, "keyOf", 0, 2)
                .keys(8, 8, 8).does("key", 0, -1).does("key", 1, -1).does("key", 2, -1).due(1, "load", 0)
                .due(-1, "keyOf", 1, 0).due(-1, "keyOf", 1, 1).due(-1, "keyOf", 1, 2);
    }

    private static void draftFields() {
        Run run = edge("A draft has fields: 0 to 3; at first it has none");
        for (int field = 0; field < 4; field++) {
            run.due(-1, "field", field, -1).due(-1, "field", field, 10 + field);
            run.due(10 + field, "field", field, 10 + field);
        }
        run.due(INDEX, "field", -1, 0).due(INDEX, "field", 4, 0);
        run.due(INDEX, "field", LEAST, 0).due(INDEX, "field", MOST, 0);
        for (int field = 0; field < 4; field++) {
            run.due(10 + field, "field", field, 10 + field);
        }
        edge("field, value: 0 to 99; -1 for none")
                .due(-1, "field", 3, 0).due(0, "field", 3, 99).due(99, "field", 3, -1).due(-1, "field", 3, 99)
                .due(ARGUMENT, "field", 3, 100).due(ARGUMENT, "field", 3, -2)
                .due(ARGUMENT, "field", 0, LEAST).due(ARGUMENT, "field", 0, MOST).due(99, "field", 3, 0)
                .due(-1, "field", 0, -1);
        edge("the one that is named first is thrown: field")
                .due(INDEX, "field", 4, 100).due(INDEX, "field", -1, -2);
        edge("A record has the fields 0 to 3, each with a value, 0 to 99, and its source, or none")
                .does("beginBatch").fields(0, 99, -1, 50).due(0, "load", 4)
                .due(0, "fieldOf", 0, 0).due(99, "fieldOf", 0, 1).due(-1, "fieldOf", 0, 2).due(50, "fieldOf", 0, 3)
                .due(4, "sourceOf", 0, 0).due(4, "sourceOf", 0, 1).due(-1, "sourceOf", 0, 2)
                .fields(1, 2, 3, 4).does("field", 1, -1).due(1, "load", 0)
                .due(1, "fieldOf", 1, 0).due(-1, "fieldOf", 1, 1).due(0, "sourceOf", 1, 0).due(-1, "sourceOf", 1, 1);
    }

    private static void draftIsEmptied() {
        edge("A load takes the draft, which is emptied: it makes a record")
                .does("beginBatch").keys(1, 2, 3).fields(4, 5, 6, 7).due(0, "load", 0).emptyDraft();
        edge("which is emptied: it goes to a record")
                .does("beginBatch").keys(1).does("load", 0)
                .keys(1, 2, 3).fields(4, 5, 6, 7).due(0, "load", 0).emptyDraft();
        edge("which is emptied: it is refused")
                .does("beginBatch").twoAlike()
                .keys(40, 9, 8).fields(4, 5, 6, 7).due(-2, "load", 0).emptyDraft();
        edge("which is emptied: its batch is undone")
                .does("beginBatch").does("undo", 0, true)
                .keys(1, 2, 3).fields(4, 5, 6, 7).due(-1, "load", 0).emptyDraft();
        edge("a draft that is put anew is no change of what was loaded")
                .does("beginBatch").keys(1, 2, 3).fields(4, 5, 6, 7).due(0, "load", 0)
                .keys(9, 9, 9).fields(9, 9, 9, 9).due(1, "keyOf", 0, 0).due(7, "fieldOf", 0, 3)
                .does("undo", 0, true).does("undo", 0, false).due(1, "keyOf", 0, 0).due(7, "fieldOf", 0, 3);
    }

    // ---- promise 8: load

    private static void loadSources() {
        Run run = edge("load, source: 0 to 4").does("beginBatch");
        for (int source = 0; source < 5; source++) {
            run.fields(7).due(source, "load", source).due(source, "sourceOf", source, 0);
        }
        run.keys(3).fields(8);
        run.due(INDEX, "load", -1).due(INDEX, "load", 5).due(INDEX, "load", LEAST).due(INDEX, "load", MOST);
        run.due(5, "loads").due(5, "load", 0).due(3, "keyOf", 5, 0).due(8, "fieldOf", 5, 0);
    }

    private static void loadNumbers() {
        edge("Loads are numbered from 0 on")
                .does("beginBatch").due(INDEX, "hit", 0).due(0, "load", 0).due(0, "hit", 0).due(INDEX, "hit", 1)
                .keys(1).due(1, "load", 0).keys(1).due(1, "load", 0).due(3, "load", 0)
                .due(1, "hit", 1).due(1, "hit", 2).due(3, "hit", 3).due(INDEX, "hit", 4).due(4, "loads");
        edge("Returns the record; -1 if its batch is undone; -2 if it is refused.")
                .does("beginBatch").twoAlike().keys(1, -1, 8).due(0, "load", 0).keys(-1, 9).due(-2, "load", 0)
                .does("undo", 0, true).keys(-1, 9).due(-1, "load", 0).due(-1, "hit", 4)
                .does("beginBatch").keys(-1, 9).due(6, "load", 0);
        edge("-1 if its batch is undone, though it would be refused")
                .does("beginBatch").twoAlike().does("beginBatch").does("undo", 1, true)
                .keys(-1, 9).due(-1, "load", 0).due(-1, "hit", 3).does("undo", 1, false).due(-2, "hit", 3);
    }

    private static void loadsAreFull() {
        Run run = edge("at most 80 are made").does("beginBatch");
        for (int load = 0; load < 79; load++) {
            run.due(load, "load", 0);
        }
        run.keys(4).fields(5).due(79, "loads").due(79, "load", 3).due(80, "loads").due(79, "hit", 79);
        run.due(4, "keyOf", 79, 0).due(5, "fieldOf", 79, 0).due(3, "sourceOf", 79, 0);
        run.keys(4).fields(6).due(STATE, "load", 0).due(STATE, "load", 4).due(80, "loads").due(INDEX, "hit", 80);
        run.due(4, "key", 0, -1).due(6, "field", 0, -1).due(INDEX, "load", 5).due(INDEX, "load", -1);
        run.does("beginBatch").due(STATE, "load", 0);
        Run undone = edge("80 loads were made: those of batches that are undone, too").does("beginBatch");
        undone.does("undo", 0, true);
        for (int load = 0; load < 80; load++) {
            undone.due(-1, "load", 0);
        }
        undone.due(STATE, "load", 0).due(80, "undo", 0, false).due(STATE, "load", 0);
        Run refused = edge("80 loads were made: those that are refused, too").does("beginBatch").twoAlike();
        for (int load = 3; load < 80; load++) {
            refused.keys(-1, 9).due(-2, "load", 0);
        }
        refused.keys(-1, 9).due(STATE, "load", 0).due(80, "loads").due(2, "records").due(-2, "hit", 79);
    }

    private static void loadThrows() {
        edge("IllegalStateException if there is no batch; IndexOutOfBoundsException is named first")
                .keys(1).due(STATE, "load", 0).due(STATE, "load", 4).due(INDEX, "load", 5).due(INDEX, "load", -1)
                .due(1, "key", 0, 1).due(0, "loads").due(0, "records");
    }

    // ---- matching

    private static void hitsOfAKey() {
        edge("have just the value that the draft has for a key: not one beside it")
                .does("beginBatch").keys(0).does("load", 0).keys(49).does("load", 0).keys(20).does("load", 0)
                .keys(0).due(0, "load", 0).keys(49).due(1, "load", 0).keys(20).due(2, "load", 0)
                .keys(1).due(6, "load", 0).keys(48).due(7, "load", 0).keys(19).due(8, "load", 0)
                .keys(21).due(9, "load", 0);
        edge("for a key: the same value of another key is no hit")
                .does("beginBatch").keys(5).does("load", 0)
                .keys(-1, 5).due(1, "load", 0).keys(-1, -1, 5).due(2, "load", 0)
                .keys(5).due(0, "load", 0).keys(-1, 5).due(1, "load", 0).keys(-1, -1, 5).due(2, "load", 0);
        edge("none if the draft has no value for it: a record without one is no hit")
                .does("beginBatch").due(0, "load", 0).due(1, "load", 0).keys(0).due(2, "load", 0)
                .fields(1).due(3, "load", 0).keys(-1, 0).due(4, "load", 0).keys(-1, -1, 0).due(5, "load", 0)
                .due(6, "load", 0).due(7, "records");
    }

    private static void hitsAreThere() {
        edge("the records that are there: one that was merged is no hit")
                .does("beginBatch").keys(1).does("load", 0).keys(2, 5).does("load", 0).does("merge", 0, 1)
                .keys(1).due(2, "load", 0).keys(-1, 5).due(1, "load", 0);
        edge("the records that are there: of two, one was merged")
                .does("beginBatch").twoAlike().keys(-1, 9).due(-2, "load", 0).does("merge", 1, 0)
                .keys(-1, 9).due(0, "load", 0);
        edge("the records that are there: one whose batch is undone is no hit")
                .does("beginBatch").keys(1).does("load", 0).does("beginBatch").does("undo", 0, true)
                .keys(1).due(1, "load", 0);
        edge("the records that are there: from the first number to the last that a load can hit")
                .does("beginBatch").keys(1).does("load", 0).emptyLoads(76).keys(2).due(77, "load", 0)
                .keys(1).due(0, "load", 0).keys(2).due(77, "load", 0).due(STATE, "load", 0).due(78, "records");
    }

    private static void firstKeyWithHitsDecides() {
        edge("The first key with hits decides: with one hit the load goes to that record")
                .does("beginBatch").keys(1, 2, 3).does("load", 0).keys(4, 5, 6).does("load", 0)
                .keys(1, 5, 6).due(0, "load", 0).keys(4, 2, 3).due(1, "load", 0)
                .keys(7, 5, 3).due(1, "load", 0).keys(-1, 2, 6).due(0, "load", 0)
                .keys(7, 8, 6).due(1, "load", 0).keys(-1, -1, 3).due(0, "load", 0);
        edge("with one hit: though a later key has several ones")
                .does("beginBatch").twoAlike().keys(2, 9).due(1, "load", 0).keys(1, 9).due(0, "load", 0);
        edge("A key with a value without hits does not decide")
                .does("beginBatch").twoAlike().keys(40, 9).due(-2, "load", 0).keys(40, 41).due(4, "load", 0);
    }

    private static void severalHits() {
        edge("with several ones it is refused: though a later key has one hit")
                .does("beginBatch").twoAlike().keys(1, -1, 8).due(0, "load", 0)
                .keys(-1, 9, 8).due(-2, "load", 0).keys(-1, -1, 8).due(0, "load", 0);
        edge("refused: nothing is given and no record is made")
                .does("beginBatch").twoAlike().keys(-1, 9, 30).fields(1, 2, 3, 4).due(-2, "load", 4)
                .due(-2, "hit", 3).due(2, "records").due(4, "loads").due(false, "isThere", 3)
                .due(-1, "keyOf", 0, 2).due(-1, "keyOf", 1, 2).due(-1, "fieldOf", 0, 0).due(-1, "fieldOf", 1, 0);
        edge("several ones: three of them, then two, then one")
                .does("beginBatch").twoAlike().keys(3).due(3, "load", 0).keys(3, 9).due(3, "load", 0)
                .keys(-1, 9).due(-2, "load", 0).does("merge", 1, 0).keys(-1, 9).due(-2, "load", 0)
                .does("merge", 3, 0).keys(-1, 9).due(0, "load", 0);
    }

    private static void recordIsMade() {
        edge("If no key has hits, a record is made, whose number is that of the load")
                .does("beginBatch").due(0, "load", 0).keys(1).due(1, "load", 0).keys(1).due(1, "load", 0)
                .keys(2).due(3, "load", 0).due(false, "isThere", 2).due(true, "isThere", 3).due(3, "records");
        Run run = edge("without protected fields and holdings").does("beginBatch").fields(1, 2, 3, 4);
        run.due(0, "load", 0).does("hold", 0).due(1, "load", 0).due(0, "holdings", 1);
        for (int field = 0; field < 4; field++) {
            run.due(false, "protect", 0, field, true).due(false, "protect", 1, field, false);
        }
        edge("it has the keys and fields of the draft: all of them")
                .does("beginBatch").keys(49, 0, 49).fields(99, 0, 99, 0).due(0, "load", 2)
                .due(49, "keyOf", 0, 0).due(0, "keyOf", 0, 1).due(49, "keyOf", 0, 2)
                .due(99, "fieldOf", 0, 0).due(0, "fieldOf", 0, 1).due(99, "fieldOf", 0, 2).due(0, "fieldOf", 0, 3)
                .due(2, "sourceOf", 0, 0).due(2, "sourceOf", 0, 1).due(2, "sourceOf", 0, 3);
        edge("it has the keys and fields of the draft: none of them")
                .does("beginBatch").due(0, "load", 2).due(1, "records")
                .due(-1, "keyOf", 0, 0).due(-1, "keyOf", 0, 2).due(-1, "fieldOf", 0, 0).due(-1, "fieldOf", 0, 3)
                .due(-1, "sourceOf", 0, 0).due(-1, "sourceOf", 0, 3).due(0, "holdings", 0).due(0, "digest");
        edge("it has the fields of the draft, whatever their rules")
                .does("setRule", 0, 0).does("setRule", 1, 1).does("setRule", 2, 2).does("setRank", 0, 0)
                .does("beginBatch").fields(1, 2, 3, 4).due(0, "load", 0)
                .due(1, "fieldOf", 0, 0).due(2, "fieldOf", 0, 1).due(3, "fieldOf", 0, 2).due(4, "fieldOf", 0, 3);
    }

    private static void recordNumbers() {
        edge("whose number is that of the load: the loads ahead being refused or undone")
                .does("beginBatch").twoAlike().keys(-1, 9).due(-2, "load", 0)
                .does("beginBatch").does("undo", 1, true).due(-1, "load", 0)
                .does("beginBatch").due(5, "load", 0).due(5, "hit", 5).due(3, "records").due(6, "loads");
    }

    private static void keysAreGiven() {
        edge("gives it each key that it does not have and the draft has")
                .does("beginBatch").keys(0).does("load", 0)
                .keys(0, 0, -1).due(0, "load", 0).due(0, "keyOf", 0, 1).due(-1, "keyOf", 0, 2)
                .keys(0, 7, 49).due(0, "load", 0).due(0, "keyOf", 0, 1).due(49, "keyOf", 0, 2)
                .keys(5, 0, 6).due(0, "load", 0).due(0, "keyOf", 0, 0).due(49, "keyOf", 0, 2)
                .keys(-1, -1, 49).due(0, "load", 0).due(0, "keyOf", 0, 0).due(0, "keyOf", 0, 1);
        edge("each key: whatever the rank of the source")
                .does("beginBatch").keys(1).does("load", 4).keys(1, 2, 3).does("load", 0)
                .due(2, "keyOf", 0, 1).due(3, "keyOf", 0, 2);
    }

    private static void fieldsAreGiven() {
        edge("For each field that the draft has: a field that it has not stays")
                .does("setRule", 0, 2).does("beginBatch").keys(1).fields(10, 20).does("load", 0)
                .keys(1).does("load", 4).due(10, "fieldOf", 0, 0).due(0, "sourceOf", 0, 0).due(20, "fieldOf", 0, 1)
                .keys(1).fields(-1, -1, 0).does("load", 4)
                .due(10, "fieldOf", 0, 0).due(20, "fieldOf", 0, 1).due(0, "fieldOf", 0, 2).due(4, "sourceOf", 0, 2);
        for (int rule = 0; rule < 3; rule++) {
            edge("if the record has no value, it gets that: rule " + rule)
                    .does("setRule", 1, rule).does("beginBatch").keys(1).fields(10).does("load", 4)
                    .keys(1).fields(-1, 0).does("load", 0).due(0, "fieldOf", 0, 1).due(0, "sourceOf", 0, 1);
        }
        edge("otherwise the rule of the field tells: 0 is a value, too")
                .does("beginBatch").keys(1).fields(0).does("load", 1)
                .keys(1).fields(5).does("load", 0).due(0, "fieldOf", 0, 0).due(1, "sourceOf", 0, 0);
        edge("just one record is given something")
                .does("beginBatch").keys(1).does("load", 0).keys(2).does("load", 0)
                .keys(2, 5).fields(6).does("load", 0).due(-1, "keyOf", 0, 1).due(-1, "fieldOf", 0, 0)
                .due(5, "keyOf", 1, 1).due(6, "fieldOf", 1, 0);
    }

    private static void protectedFields() {
        for (int rule = 0; rule < 3; rule++) {
            edge("and that is not protected in the record: rule " + rule)
                    .does("setRule", 0, rule).does("setRule", 1, rule).does("beginBatch")
                    .keys(1).fields(10).does("load", 0)
                    .does("protect", 0, 0, true).does("protect", 0, 1, true)
                    .keys(1).fields(11, 12, 13).does("load", 4)
                    .due(10, "fieldOf", 0, 0).due(0, "sourceOf", 0, 0)
                    .due(-1, "fieldOf", 0, 1).due(-1, "sourceOf", 0, 1).due(13, "fieldOf", 0, 2)
                    .does("protect", 0, 1, false).keys(1).fields(-1, 14).does("load", 0)
                    .due(14, "fieldOf", 0, 1).due(0, "sourceOf", 0, 1);
        }
        edge("not protected in the record: keys are given though all fields are protected")
                .does("beginBatch").keys(1).does("load", 0)
                .does("protect", 0, 0, true).does("protect", 0, 1, true).does("protect", 0, 2, true)
                .does("protect", 0, 3, true)
                .keys(1, 2, 3).fields(4, 5, 6, 7).due(0, "load", 4)
                .due(2, "keyOf", 0, 1).due(3, "keyOf", 0, 2).due(-1, "fieldOf", 0, 0).due(-1, "fieldOf", 0, 3);
    }

    // ---- promises 9 to 11: acts

    private static void protect() {
        edge("protect, field: 0 to 3")
                .does("beginBatch").does("load", 0)
                .due(false, "protect", 0, 0, true).due(false, "protect", 0, 3, true)
                .due(INDEX, "protect", 0, -1, true).due(INDEX, "protect", 0, 4, true)
                .due(INDEX, "protect", 0, LEAST, false).due(INDEX, "protect", 0, MOST, false);
        edge("IndexOutOfBoundsException if there is no such record or field")
                .does("beginBatch").does("load", 0)
                .due(INDEX, "protect", 1, 0, true).due(INDEX, "protect", -1, 0, true)
                .due(INDEX, "protect", 1, 4, true).due(INDEX, "protect", 80, 0, true);
        edge("Returns whether it was.")
                .does("beginBatch").does("load", 0)
                .due(false, "protect", 0, 2, false).due(false, "protect", 0, 2, true)
                .due(true, "protect", 0, 2, true).due(true, "protect", 0, 2, false)
                .due(false, "protect", 0, 2, false);
        edge("A field of a record is protected, or not any more: over an undo")
                .does("beginBatch").does("load", 0).does("beginBatch")
                .does("protect", 0, 2, true).does("protect", 0, 3, true).does("protect", 0, 3, false)
                .does("undo", 1, true).due(true, "protect", 0, 2, true).due(false, "protect", 0, 3, false);
    }

    private static void protectEachFieldOfEachRecord() {
        for (int field = 0; field < 4; field++) {
            Run run = edge("for each field whether it is protected: field " + field).does("beginBatch");
            run.does("load", 0).does("load", 0).does("protect", 0, field, true);
            for (int other = 0; other < 4; other++) {
                run.due(field == other, "protect", 0, other, true).due(false, "protect", 1, other, false);
            }
        }
    }

    private static void hold() {
        edge("Returns how many it has then.")
                .does("beginBatch").does("load", 0).does("load", 0)
                .due(0, "holdings", 0).due(1, "hold", 0).due(1, "holdings", 0)
                .due(2, "hold", 0).due(0, "holdings", 1).due(1, "hold", 1).due(2, "holdings", 0);
        edge("hold: IndexOutOfBoundsException if there is no such record")
                .due(INDEX, "hold", 0).does("beginBatch").does("load", 0)
                .due(INDEX, "hold", 1).due(INDEX, "hold", -1).due(INDEX, "hold", LEAST).due(INDEX, "hold", MOST)
                .due(0, "holdings", 0);
        Run run = edge("a number of holdings: 100 at most, all acts being such").does("beginBatch").does("load", 0);
        for (int act = 1; act <= 100; act++) {
            run.due(act, "hold", 0);
        }
        run.due(STATE, "hold", 0).due(100, "holdings", 0).due(100, "digest").due(100, "digestAnew");
    }

    private static void mergeHoldings() {
        edge("the other one gets its holdings; returns how many the other one has then")
                .does("beginBatch").does("load", 0).does("load", 0).does("load", 0).does("load", 0)
                .due(0, "merge", 3, 2).does("hold", 0).does("hold", 0).does("hold", 1)
                .due(0, "holdings", 2).due(2, "merge", 0, 2).due(2, "holdings", 2)
                .due(3, "merge", 2, 1).due(3, "holdings", 1).due(1, "records");
        edge("the other one gets its holdings: it has none itself, or the one has none")
                .does("beginBatch").does("load", 0).does("load", 0).does("load", 0)
                .does("hold", 0).due(1, "merge", 1, 0).due(1, "merge", 0, 2).due(1, "holdings", 2);
    }

    private static void mergeKeys() {
        edge("each key that it does not have")
                .does("beginBatch").keys(0, -1, -1).does("load", 0).keys(5, 0, 49).does("load", 0)
                .does("merge", 1, 0).due(0, "keyOf", 0, 0).due(0, "keyOf", 0, 1).due(49, "keyOf", 0, 2);
        edge("each key that it does not have: a key that the one has not is none as before")
                .does("beginBatch").keys(1).does("load", 0).keys(2).does("load", 0)
                .does("merge", 0, 1).due(2, "keyOf", 1, 0).due(-1, "keyOf", 1, 1).due(-1, "keyOf", 1, 2);
        edge("each key: a key that moved hits, one that did not move does not")
                .does("beginBatch").keys(1, 2).does("load", 0).keys(3).does("load", 0).does("merge", 0, 1)
                .keys(-1, 2).due(1, "load", 0).keys(1).due(3, "load", 0);
    }

    private static void mergeFields() {
        edge("each field that it does not have, with its source")
                .does("beginBatch").keys(1).fields(0).does("load", 0).keys(2).fields(9, 0, 99).does("load", 4)
                .does("merge", 1, 0).due(0, "fieldOf", 0, 0).due(0, "sourceOf", 0, 0)
                .due(0, "fieldOf", 0, 1).due(4, "sourceOf", 0, 1).due(99, "fieldOf", 0, 2).due(4, "sourceOf", 0, 2)
                .due(-1, "fieldOf", 0, 3).due(-1, "sourceOf", 0, 3);
        edge("each field that it does not have: no rule replaces one that it has")
                .does("setRule", 0, 2).does("beginBatch").keys(1).fields(1, 2).does("load", 0)
                .keys(2).fields(3, 4).does("load", 4).does("merge", 1, 0)
                .due(1, "fieldOf", 0, 0).due(2, "fieldOf", 0, 1).due(0, "sourceOf", 0, 0);
        edge("with its source: its rank counts from then on")
                .does("beginBatch").keys(1).does("load", 0).keys(2).fields(7).does("load", 3).does("merge", 1, 0)
                .keys(1).fields(8).does("load", 2).due(7, "fieldOf", 0, 0)
                .keys(1).fields(9).does("load", 3).due(9, "fieldOf", 0, 0);
    }

    private static void mergeWhetherProtected() {
        for (int code = 0; code < 4; code++) {
            boolean one = code % 2 == 1;
            boolean other = code / 2 == 1;
            edge("whether that is protected in the one or in the other one: " + one + ", " + other)
                    .does("beginBatch").keys(1).fields(5).does("load", 0).keys(2).fields(6, 7).does("load", 4)
                    .does("protect", 1, 0, one).does("protect", 1, 1, one)
                    .does("protect", 0, 0, other).does("protect", 0, 1, other)
                    .does("merge", 1, 0).due(5, "fieldOf", 0, 0).due(0, "sourceOf", 0, 0)
                    .due(7, "fieldOf", 0, 1).due(4, "sourceOf", 0, 1)
                    .due(other, "protect", 0, 0, other).due(other, "protect", 0, 1, other)
                    .keys(1).fields(8, 9).does("load", 4)
                    .due(other ? 5 : 8, "fieldOf", 0, 0).due(other ? 7 : 9, "fieldOf", 0, 1);
        }
    }

    private static void mergedIsNotThere() {
        edge("then the record is not there any more")
                .does("beginBatch").keys(1).does("load", 0).does("load", 0).does("merge", 0, 1)
                .due(false, "isThere", 0).due(true, "isThere", 1).due(1, "records").due(2, "loads")
                .due(0, "hit", 0).due(INDEX, "hold", 0).due(INDEX, "protect", 0, 0, true).due(INDEX, "merge", 0, 1)
                .due(INDEX, "merge", 1, 0).due(INDEX, "keyOf", 0, 0).due(INDEX, "fieldOf", 0, 0)
                .due(INDEX, "sourceOf", 0, 0).due(INDEX, "holdings", 0).due(2, "digest");
    }

    private static void mergeRefused() {
        edge("merge: IndexOutOfBoundsException if there is no such record")
                .does("beginBatch").does("load", 0).does("load", 0)
                .due(INDEX, "merge", 2, 0).due(INDEX, "merge", 0, 2).due(INDEX, "merge", -1, 0)
                .due(INDEX, "merge", 0, -1).due(INDEX, "merge", MOST, 0).due(INDEX, "merge", 0, LEAST)
                .due(2, "records");
        edge("IllegalArgumentException if both are the same")
                .does("beginBatch").does("load", 0).does("load", 0)
                .due(ARGUMENT, "merge", 0, 0).due(ARGUMENT, "merge", 1, 1).due(2, "records").due(0, "merge", 0, 1);
        edge("the one that is named first is thrown: merge")
                .due(INDEX, "merge", 0, 0).does("beginBatch").does("load", 0)
                .due(INDEX, "merge", 1, 1).due(INDEX, "merge", -1, -1);
    }

    private static void actsAreFull() {
        Run run = edge("At most 100 acts are done.").does("beginBatch").does("load", 0).does("load", 0);
        for (int act = 0; act < 99; act++) {
            run.does("protect", 0, 0, act % 2 == 0);
        }
        run.due(true, "protect", 0, 0, true);
        run.due(STATE, "protect", 0, 0, false).due(STATE, "protect", 0, 3, true).due(STATE, "hold", 0);
        run.due(STATE, "merge", 0, 1).due(0, "holdings", 0).due(2, "records");
        run.due(INDEX, "protect", 2, 0, true).due(INDEX, "protect", 0, 4, true).due(INDEX, "hold", 2);
        run.due(INDEX, "merge", 0, 2).due(INDEX, "merge", 2, 0).due(INDEX, "merge", 2, 2);
        run.due(ARGUMENT, "merge", 0, 0);
        for (String last : new String[] {"protect", "hold", "merge"}) {
            Run full = edge("At most 100 acts are done: the 100th is " + last).does("beginBatch");
            full.does("load", 0).does("load", 0).does("load", 0);
            for (int act = 0; act < 99; act++) {
                full.does("hold", 0);
            }
            if (last.equals("protect")) {
                full.due(false, "protect", 0, 0, true);
            } else if (last.equals("hold")) {
                full.due(100, "hold", 0);
            } else {
                full.due(99, "merge", 0, 1);
            }
            full.due(STATE, "hold", 1).due(STATE, "protect", 1, 0, true).due(STATE, "merge", 1, 2);
        }
    }

    private static void actsThatCount() {
        Run passed = edge("100 acts were done: those that are passed over, too").does("beginBatch").does("load", 0);
        for (int act = 0; act < 100; act++) {
            passed.does("hold", 0);
        }
        passed.does("beginBatch").does("undo", 0, true).due(1, "load", 0).due(0, "holdings", 1);
        passed.due(STATE, "hold", 1).due(2, "undo", 0, false).due(100, "holdings", 0).due(STATE, "hold", 1);
        Run idle = edge("100 acts were done: those that change nothing, too").does("beginBatch").does("load", 0);
        for (int act = 0; act < 100; act++) {
            idle.due(false, "protect", 0, 0, false);
        }
        idle.due(STATE, "protect", 0, 0, false).due(STATE, "hold", 0);
        Run thrown = edge("100 acts were done: a call that throws is none").does("beginBatch").does("load", 0);
        for (int act = 0; act < 99; act++) {
            thrown.does("hold", 0);
        }
        thrown.due(INDEX, "hold", 1).due(INDEX, "protect", 0, 4, true).due(ARGUMENT, "merge", 0, 0);
        thrown.due(100, "hold", 0);
        Run loads = edge("100 acts were done: loads, batches and undos are none").does("beginBatch");
        for (int act = 0; act < 9; act++) {
            loads.does("beginBatch").does("load", 0).does("undo", act + 1, true).does("undo", act + 1, false);
        }
        for (int act = 1; act <= 100; act++) {
            loads.due(act, "hold", 0);
        }
        loads.due(STATE, "hold", 0).due(9, "load", 0).due(9, "undo", 1, true);
    }

    // ---- promise 12: undo

    private static void undoAnswers() {
        edge("Returns how many records there are then.")
                .does("beginBatch").due(0, "undo", 0, true).due(0, "undo", 0, false)
                .does("load", 0).does("load", 0).does("beginBatch").does("load", 0)
                .due(1, "undo", 0, true).due(0, "undo", 1, true).due(2, "undo", 0, false).due(3, "undo", 1, false)
                .does("merge", 2, 0).due(1, "undo", 0, true).due(2, "undo", 0, false);
        Run run = edge("Undoes a batch, or does it again: the first and the last");
        for (int batch = 0; batch < 10; batch++) {
            run.does("beginBatch").due(batch, "load", 0);
        }
        run.due(9, "undo", 0, true).due(8, "undo", 9, true).due(false, "isThere", 0).due(false, "isThere", 9);
        run.due(true, "isThere", 1).due(true, "isThere", 8).due(-1, "hit", 0).due(-1, "hit", 9).due(8, "hit", 8);
        run.due(9, "undo", 9, false).due(10, "undo", 0, false).due(0, "hit", 0).due(9, "hit", 9);
    }

    private static void undoRefused() {
        edge("undo: IndexOutOfBoundsException if there is no such batch")
                .due(INDEX, "undo", 0, true).due(INDEX, "undo", 0, false).does("beginBatch").does("load", 0)
                .due(INDEX, "undo", 1, true).due(INDEX, "undo", 1, false).due(INDEX, "undo", -1, true)
                .due(INDEX, "undo", -1, false).due(INDEX, "undo", 10, true).due(INDEX, "undo", LEAST, true)
                .due(INDEX, "undo", MOST, false).due(1, "records");
        edge("IllegalStateException if it is undone or not already, as told")
                .does("beginBatch").does("load", 0).does("beginBatch").does("load", 0)
                .due(STATE, "undo", 0, false).due(STATE, "undo", 1, false).due(1, "undo", 0, true)
                .due(STATE, "undo", 0, true).due(STATE, "undo", 1, false).due(0, "undo", 1, true)
                .due(STATE, "undo", 1, true).due(1, "undo", 0, false).due(STATE, "undo", 0, false)
                .due(STATE, "undo", 1, true).due(2, "undo", 1, false).due(STATE, "undo", 1, false);
    }

    private static void orderOfWhatWasDone() {
        edge("all loads and acts are done in the order in which they were made: a protection amid loads")
                .does("beginBatch").keys(1).fields(10).does("load", 0).does("beginBatch")
                .keys(1).fields(11).does("load", 0).does("protect", 0, 0, true)
                .keys(1).fields(12).does("load", 0).does("protect", 0, 0, false)
                .due(11, "fieldOf", 0, 0).does("undo", 1, true).due(10, "fieldOf", 0, 0)
                .does("undo", 1, false).due(11, "fieldOf", 0, 0).due(false, "protect", 0, 0, false);
        edge("in the order in which they were made: not batch by batch in that of undoing")
                .does("beginBatch").keys(1).fields(10).does("load", 0)
                .does("beginBatch").keys(1).fields(11).does("load", 0)
                .does("undo", 0, true).does("undo", 1, true).due(1, "undo", 1, false).due(1, "undo", 0, false)
                .due(true, "isThere", 0).due(11, "fieldOf", 0, 0).due(0, "hit", 1);
        edge("but for loads of batches that are undone: the acts of that time are done")
                .does("beginBatch").does("load", 0).does("beginBatch").does("load", 0).does("hold", 0)
                .does("merge", 1, 0).does("hold", 0).due(1, "undo", 1, true).due(2, "holdings", 0);
        edge("a merge amid loads: what was loaded ahead moves, what comes behind does not")
                .does("beginBatch").keys(1).does("load", 0).keys(2).fields(5).does("load", 0).does("merge", 1, 0)
                .keys(2).fields(6).due(2, "load", 0).does("beginBatch").does("undo", 1, true)
                .due(5, "fieldOf", 0, 0).due(6, "fieldOf", 2, 0).due(false, "isThere", 1);
        edge("whole batches are undone, although later ones touched the same records")
                .does("beginBatch").keys(1).fields(10).does("load", 0)
                .does("beginBatch").keys(1, 2).fields(11).does("load", 1)
                .does("beginBatch").keys(-1, 2).fields(-1, 12).due(0, "load", 0)
                .due(2, "undo", 1, true).due(2, "hit", 2).due(10, "fieldOf", 0, 0).due(-1, "fieldOf", 0, 1)
                .due(12, "fieldOf", 2, 1).due(1, "undo", 1, false).due(0, "hit", 2).due(12, "fieldOf", 0, 1);
        edge("a load that was refused goes to a record, and is refused again")
                .does("beginBatch").keys(1, 9).does("load", 0).keys(2).does("load", 0)
                .does("beginBatch").keys(2, 9).due(1, "load", 0)
                .does("beginBatch").keys(-1, 9).fields(3).due(-2, "load", 0)
                .due(2, "undo", 1, true).due(0, "hit", 3).due(3, "fieldOf", 0, 0)
                .due(2, "undo", 1, false).due(-2, "hit", 3).due(-1, "fieldOf", 0, 0);
    }

    private static void passedOver() {
        edge("an act is passed over if a record of it is not there: a holding")
                .does("beginBatch").does("load", 0).does("beginBatch").does("load", 0).does("hold", 1)
                .due(1, "undo", 1, true).due(INDEX, "holdings", 1).due(0, "holdings", 0).due(0, "digestAnew")
                .due(2, "undo", 1, false).due(1, "holdings", 1).due(0, "holdings", 0);
        edge("is passed over: a protection")
                .does("beginBatch").does("load", 0).does("beginBatch").does("load", 0).does("protect", 1, 2, true)
                .due(1, "undo", 1, true).due(INDEX, "protect", 1, 2, false).due(false, "protect", 0, 2, false)
                .due(2, "undo", 1, false).due(true, "protect", 1, 2, true);
        edge("is passed over: a merge whose record that goes away is not there")
                .does("beginBatch").keys(1).does("load", 0)
                .does("beginBatch").keys(2, 3).fields(4).does("load", 0).does("hold", 1).does("merge", 1, 0)
                .due(1, "undo", 1, true).due(0, "holdings", 0).due(-1, "keyOf", 0, 1).due(-1, "fieldOf", 0, 0)
                .due(1, "undo", 1, false).due(1, "holdings", 0).due(3, "keyOf", 0, 1).due(4, "fieldOf", 0, 0);
        edge("is passed over: a merge whose record that stays is not there")
                .does("beginBatch").keys(1).does("load", 0)
                .does("beginBatch").keys(2, 3).fields(4).does("load", 0).does("hold", 1).does("merge", 1, 0)
                .due(1, "undo", 0, true).due(true, "isThere", 1).due(1, "holdings", 1).due(2, "keyOf", 1, 0)
                .due(3, "keyOf", 1, 1).due(4, "fieldOf", 1, 0).due(-1, "hit", 0).due(1, "hit", 1)
                .due(1, "undo", 0, false).due(false, "isThere", 1).due(1, "holdings", 0);
        edge("is passed over: a merge with neither there")
                .does("beginBatch").does("load", 0).does("load", 0).does("hold", 0).does("merge", 1, 0)
                .due(0, "undo", 0, true).due(0, "digest").due(1, "undo", 0, false).due(1, "holdings", 0);
        edge("is passed over: the record was merged, now that this is done again")
                .does("beginBatch").does("load", 0).does("beginBatch").does("load", 0).does("merge", 1, 0)
                .does("undo", 0, true).due(1, "hold", 1).due(1, "undo", 0, false).due(0, "holdings", 0)
                .due(1, "undo", 0, true).due(1, "holdings", 1);
        edge("is passed over: the load that made the record goes to another one")
                .does("beginBatch").keys(1).does("load", 0).does("undo", 0, true)
                .does("beginBatch").keys(1).due(1, "load", 0).due(1, "hold", 1)
                .due(1, "undo", 0, false).due(0, "hit", 1).due(false, "isThere", 1).due(0, "holdings", 0)
                .due(1, "undo", 0, true).due(1, "holdings", 1);
    }

    private static void numbersStay() {
        edge("The numbers of loads and records stay as they are.")
                .does("beginBatch").does("load", 0).does("load", 0).does("beginBatch").does("load", 0)
                .due(1, "undo", 0, true).due(3, "loads").due(2, "batches").due(2, "hit", 2).due(true, "isThere", 2)
                .due(false, "isThere", 0).due(3, "load", 0).due(4, "undo", 0, false).due(2, "hit", 2).due(3, "hit", 3)
                .due(2, "undo", 1, true).due(4, "loads").due(2, "beginBatch").due(4, "load", 0).due(4, "hit", 4);
    }

    private static void undoneBatchOfNow() {
        edge("Loads can be made in the batch of now only, which can be undone, too")
                .does("beginBatch").keys(1).fields(10).due(0, "load", 0).due(0, "undo", 0, true)
                .keys(1).fields(11).due(-1, "load", 0).due(-1, "hit", 1).due(2, "loads").due(0, "records")
                .due(false, "isThere", 0).due(false, "isThere", 1).due(0, "digest").due(0, "digestAnew")
                .due(INDEX, "hold", 1).due(1, "undo", 0, false).due(0, "hit", 1).due(11, "fieldOf", 0, 0);
        edge("a load in a batch that is undone does nothing until that is done again")
                .does("beginBatch").keys(1).due(0, "load", 0).does("beginBatch").due(1, "undo", 1, true)
                .keys(1, 2).fields(3).due(-1, "load", 4).keys(5).due(-1, "load", 4)
                .due(-1, "keyOf", 0, 1).due(-1, "fieldOf", 0, 0).due(1, "records")
                .does("beginBatch").keys(5).due(3, "load", 0).due(2, "undo", 1, false)
                .due(0, "hit", 1).due(2, "hit", 2).due(2, "hit", 3).due(2, "keyOf", 0, 1).due(4, "sourceOf", 0, 0);
    }

    // ---- promises 13 to 24: what there is

    private static void isUndone() {
        edge("isUndone: IndexOutOfBoundsException if there is no such batch")
                .due(INDEX, "isUndone", 0).does("beginBatch").does("beginBatch")
                .due(false, "isUndone", 0).due(false, "isUndone", 1).due(INDEX, "isUndone", 2)
                .due(INDEX, "isUndone", -1).due(INDEX, "isUndone", 10)
                .due(INDEX, "isUndone", LEAST).due(INDEX, "isUndone", MOST);
        Run run = edge("Tells whether a batch is undone.");
        for (int batch = 0; batch < 10; batch++) {
            run.does("beginBatch");
        }
        run.does("undo", 0, true).does("undo", 9, true).due(true, "isUndone", 0).due(false, "isUndone", 1);
        run.due(false, "isUndone", 8).due(true, "isUndone", 9).does("undo", 0, false).due(false, "isUndone", 0);
        run.due(true, "isUndone", 9).due(INDEX, "isUndone", 10);
    }

    private static void isThere() {
        edge("isThere, record: any number")
                .due(false, "isThere", LEAST).due(false, "isThere", -1).due(false, "isThere", 0)
                .due(false, "isThere", 79).due(false, "isThere", 80).due(false, "isThere", MOST)
                .does("beginBatch").does("load", 0).due(true, "isThere", 0).due(false, "isThere", 1)
                .due(false, "isThere", -1).does("undo", 0, true).due(false, "isThere", 0)
                .does("undo", 0, false).due(true, "isThere", 0);
        edge("Tells whether there is a record with a number: the last one")
                .does("beginBatch").emptyLoads(79).due(false, "isThere", 79).does("load", 0)
                .due(true, "isThere", 79).due(false, "isThere", 80).due(true, "isThere", 78).due(80, "records");
    }

    private static void hit() {
        edge("hit: IndexOutOfBoundsException if there is no such load")
                .due(INDEX, "hit", 0).does("beginBatch").does("load", 0)
                .due(0, "hit", 0).due(INDEX, "hit", 1).due(INDEX, "hit", -1).due(INDEX, "hit", 79)
                .due(INDEX, "hit", 80).due(INDEX, "hit", LEAST).due(INDEX, "hit", MOST);
        edge("the record to which it went, or that it made; -1 if its batch is undone; -2 if it is refused")
                .does("beginBatch").twoAlike().does("beginBatch").keys(-1, 9).due(-2, "load", 0)
                .due(0, "hit", 0).due(1, "hit", 1).due(1, "hit", 2).due(-2, "hit", 3)
                .does("undo", 1, true).due(1, "hit", 2).due(-1, "hit", 3)
                .does("undo", 0, true).due(-1, "hit", 0).due(-1, "hit", 2)
                .does("undo", 1, false).due(3, "hit", 3).does("undo", 0, false).due(-2, "hit", 3);
        edge("the record to which it went, or that it made: though that was merged")
                .does("beginBatch").keys(1).does("load", 0).keys(1).does("load", 0).does("load", 0)
                .does("merge", 0, 2).due(0, "hit", 0).due(0, "hit", 1).due(2, "hit", 2)
                .does("undo", 0, true).does("undo", 0, false).due(0, "hit", 0).due(0, "hit", 1).due(2, "hit", 2);
    }

    private static void recordNumberThrows() {
        int[] missing = {2, 3, 4, 5, 6, -1, 79, 80, LEAST, MOST};
        for (int number : missing) {
            edge("A record number throws IndexOutOfBoundsException if there is no such record there: " + number)
                    .does("beginBatch").twoAlike().keys(-1, 9).due(-2, "load", 0)
                    .does("beginBatch").does("undo", 1, true).due(-1, "load", 0)
                    .does("beginBatch").due(5, "load", 0).does("merge", 5, 0)
                    .due(false, "isThere", number).due(INDEX, "protect", number, 0, true).due(INDEX, "hold", number)
                    .due(INDEX, "merge", number, 0).due(INDEX, "merge", 0, number).due(INDEX, "merge", number, number)
                    .due(INDEX, "keyOf", number, 0).due(INDEX, "fieldOf", number, 0).due(INDEX, "sourceOf", number, 0)
                    .due(INDEX, "holdings", number);
        }
    }

    private static void readers() {
        edge("keyOf: -1 for none; IndexOutOfBoundsException if there is no such key")
                .does("beginBatch").keys(-1, 0, 49).does("load", 0)
                .due(-1, "keyOf", 0, 0).due(0, "keyOf", 0, 1).due(49, "keyOf", 0, 2)
                .due(INDEX, "keyOf", 0, -1).due(INDEX, "keyOf", 0, 3)
                .due(INDEX, "keyOf", 0, LEAST).due(INDEX, "keyOf", 0, MOST).due(INDEX, "keyOf", 1, 3);
        edge("fieldOf: -1 for none; IndexOutOfBoundsException if there is no such field")
                .does("beginBatch").fields(-1, 0, 50, 99).does("load", 0)
                .due(-1, "fieldOf", 0, 0).due(0, "fieldOf", 0, 1).due(50, "fieldOf", 0, 2).due(99, "fieldOf", 0, 3)
                .due(INDEX, "fieldOf", 0, -1).due(INDEX, "fieldOf", 0, 4)
                .due(INDEX, "fieldOf", 0, LEAST).due(INDEX, "fieldOf", 0, MOST).due(INDEX, "fieldOf", 1, 4);
        edge("sourceOf: -1 if it has no value; IndexOutOfBoundsException if there is no such field")
                .does("beginBatch").keys(1).fields(-1, 0).does("load", 0).keys(1).fields(-1, -1, 0).does("load", 4)
                .due(-1, "sourceOf", 0, 0).due(0, "sourceOf", 0, 1).due(4, "sourceOf", 0, 2).due(-1, "sourceOf", 0, 3)
                .due(INDEX, "sourceOf", 0, -1).due(INDEX, "sourceOf", 0, 4)
                .due(INDEX, "sourceOf", 0, LEAST).due(INDEX, "sourceOf", 0, MOST).due(INDEX, "sourceOf", 1, 4);
        edge("sourceOf: -1 if it has no value any more")
                .does("beginBatch").keys(1).does("load", 0).does("beginBatch").keys(1).fields(5).does("load", 3)
                .due(3, "sourceOf", 0, 0).does("undo", 1, true).due(-1, "sourceOf", 0, 0).due(-1, "fieldOf", 0, 0);
        edge("holdings: IndexOutOfBoundsException if there is no such record")
                .due(INDEX, "holdings", 0).does("beginBatch").does("load", 0).due(0, "holdings", 0)
                .due(INDEX, "holdings", 1).due(INDEX, "holdings", -1).does("undo", 0, true).due(INDEX, "holdings", 0);
    }

    private static void counts() {
        edge("Returns how many batches there are: empty and undone ones, too")
                .due(0, "batches").does("beginBatch").due(1, "batches").does("undo", 0, true).due(1, "batches")
                .does("beginBatch").due(2, "batches");
        edge("Returns how many loads were made: refused and undone ones, too")
                .due(0, "loads").does("beginBatch").due(0, "loads").twoAlike().due(3, "loads")
                .keys(-1, 9).due(-2, "load", 0).due(4, "loads").does("undo", 0, true).due(4, "loads")
                .due(-1, "load", 0).due(5, "loads").does("undo", 0, false).due(5, "loads");
        edge("Returns how many records there are: not those that were merged or are undone")
                .due(0, "records").does("beginBatch").due(0, "records").twoAlike().due(2, "records")
                .keys(-1, 9).due(-2, "load", 0).due(2, "records").does("merge", 1, 0).due(1, "records")
                .does("undo", 0, true).due(0, "records").does("undo", 0, false).due(1, "records");
    }

    private static void digest() {
        for (int place = 0; place < 7; place++) {
            Run run = edge("the sum over all records, keys and fields: place " + place).does("beginBatch");
            String part = place < 3 ? "key" : "field";
            run.does("load", 0).does(part, place < 3 ? place : place - 3, 7).does("load", 0);
            run.due(14, "digest").due(14, "digestAnew");
        }
        edge("of their values, none as 0")
                .does("beginBatch").due(0, "load", 0).due(1, "load", 0).due(0, "digest").due(0, "digestAnew")
                .keys(0, 0, 0).fields(0, 0, 0, 0).due(2, "load", 0).due(0, "digest").due(0, "digestAnew");
        Run run = edge("each times 1 and the number of its record, together: the first and the last record");
        run.does("beginBatch").keys(49).fields(99).due(0, "load", 0).due(148, "digest").emptyLoads(78);
        run.keys(48).fields(99).due(79, "load", 0).due(148 + 80 * 147, "digest").due(148 + 80 * 147, "digestAnew");
        edge("and of all holdings, as they are")
                .does("beginBatch").keys(1).does("load", 0).keys(2).does("load", 0).does("hold", 1).does("hold", 1)
                .due(7, "digest").due(7, "digestAnew").does("hold", 0).due(8, "digest").due(8, "digestAnew");
        edge("the whole catalogue: a record that is not there has no part in it")
                .does("beginBatch").keys(1).does("load", 0).does("hold", 0).keys(2, 5).does("load", 0)
                .due(16, "digest").due(1, "merge", 1, 0).due(7, "digest").due(7, "digestAnew")
                .does("undo", 0, true).due(0, "digest").due(0, "digestAnew");
    }

    private static void digestAnew() {
        edge("The catalogue is always what it would be without the batches that are undone")
                .does("beginBatch").keys(1).fields(10).does("load", 2).does("hold", 0).sameDigests(12)
                .does("beginBatch").keys(1, 2).fields(20).does("load", 2).keys(3).does("load", 1).sameDigests(33)
                .does("protect", 0, 0, true).keys(1).fields(30).does("load", 4).sameDigests(33)
                .does("merge", 2, 0).sameDigests(24).does("undo", 0, true).sameDigests(75)
                .does("undo", 0, false).sameDigests(24).does("undo", 1, true).sameDigests(12)
                .does("undo", 0, true).sameDigests(0).does("undo", 1, false).sameDigests(75);
    }

    private static void readersChangeNothing() {
        Run run = edge("nothing from here on changes anything").does("setOrder", 1, 0, 2).does("beginBatch");
        run.twoAlike().does("hold", 0).does("protect", 1, 1, true).does("beginBatch");
        run.keys(-1, -1, 3).fields(4, 5).does("load", 1).does("undo", 0, true).keys(6).fields(7);
        run.unchanged("batches").unchanged("loads").unchanged("records").unchanged("isUndone", 0);
        run.unchanged("isThere", 3).unchanged("hit", 3).unchanged("keyOf", 3, 2).unchanged("fieldOf", 3, 1);
        run.unchanged("sourceOf", 3, 1).unchanged("holdings", 3).unchanged("digest").unchanged("digestAnew");
        Run empty = edge("nothing from here on changes anything: a new object");
        empty.unchanged("batches").unchanged("loads").unchanged("records").unchanged("isThere", 0);
        empty.unchanged("digest").unchanged("digestAnew");
    }

    private static void fullObject() {
        Run run = edge("An object is used for at most 512 calls: all that it takes, with the largest sums");
        run.does("beginBatch");
        for (int load = 0; load < 80; load++) {
            run.fields(99, 99, 99, 99).due(load, "load", 4);
        }
        for (int act = 0; act < 100; act++) {
            run.does("hold", 79);
        }
        int sum = 4 * 99 * (80 * 81 / 2) + 100;
        run.due(sum, "digest").due(sum, "digestAnew").due(0, "undo", 0, true).due(0, "digest").due(0, "digestAnew");
        run.due(80, "undo", 0, false).due(sum, "digest").due(sum, "digestAnew").due(100, "holdings", 79);
        run.due(99, "fieldOf", 79, 3).due(79, "hit", 79);
        if (run.made != MOST_CALLS) {
            run.fault("the test is to make 512 calls, but makes " + run.made);
        }
    }

    // ---- how an edge is put to the program

    private static Run edge(String sentence) {
        edges++;
        return new Run(sentence);
    }

    private static Object ask(CatalogueLoader loader, Object[] call) {
        Method method = FACE.get((String) call[0]);
        try {
            return method.invoke(loader, Arrays.copyOfRange(call, 1, call.length));
        } catch (InvocationTargetException e) {
            return e.getCause().getClass().getSimpleName();
        } catch (IllegalAccessException e) {
            throw new IllegalStateException(e);
        }
    }

    private static Object[] call(String name, Object... args) {
        Object[] call = new Object[args.length + 1];
        call[0] = name;
        System.arraycopy(args, 0, call, 1, args.length);
        return call;
    }

    /** An object, with what was done to it, but for what was refused. */
    private static final class Run {
        private final String sentence;
        private final CatalogueLoader loader = new CatalogueLoader();
        private final List<Object[]> done = new ArrayList<>();
        private int made = 0;

        Run(String sentence) {
            this.sentence = sentence;
        }

        void fault(String what) {
            wrong++;
            System.out.println(sentence + ": " + what);
        }

        private Object make(Object[] call) {
            made++;
            if (made > MOST_CALLS) {
                fault("more calls than an object is used for");
            }
            return ask(loader, call);
        }

        /** Makes a call that has an answer due; if that is an exception, nothing may have changed. */
        Run due(Object want, String name, Object... args) {
            Object[] call = call(name, args);
            Object got = make(call);
            if (want == null ? got != null : !want.equals(got)) {
                fault(Arrays.toString(call) + " answered " + got + ", due is " + want);
            }
            if (got instanceof String) {
                compare(call);
            } else {
                done.add(call);
            }
            return this;
        }

        /** Makes a call whose answer is not looked at, but for that it is no exception. */
        Run does(String name, Object... args) {
            Object[] call = call(name, args);
            Object got = make(call);
            if (got instanceof String) {
                fault(Arrays.toString(call) + " answered " + got);
            }
            done.add(call);
            return this;
        }

        Run unchanged(String name, Object... args) {
            does(name, args);
            Object[] call = done.remove(done.size() - 1);
            compare(call);
            return this;
        }

        Run keys(int... values) {
            return put("key", values);
        }

        Run fields(int... values) {
            return put("field", values);
        }

        private Run put(String name, int[] values) {
            for (int place = 0; place < values.length; place++) {
                if (values[place] != -1) {
                    does(name, place, values[place]);
                }
            }
            return this;
        }

        Run emptyLoads(int count) {
            for (int load = 0; load < count; load++) {
                does("load", 0);
            }
            return this;
        }

        /** Three loads that make the records 0 and 1, with the keys 1, 9, none and 2, 9, none. */
        Run twoAlike() {
            does("key", 0, 1).does("key", 1, 9).does("load", 0).does("key", 0, 2).does("load", 0);
            return does("key", 0, 2).does("key", 1, 9).does("load", 0);
        }

        Run emptyDraft() {
            for (int key = 0; key < 3; key++) {
                due(-1, "key", key, -1);
            }
            for (int field = 0; field < 4; field++) {
                due(-1, "field", field, -1);
            }
            return this;
        }

        Run sameDigests(int sum) {
            return due(sum, "digest").due(sum, "digestAnew");
        }

        private void compare(Object[] call) {
            for (int kind = 0; kind < Probe.KINDS; kind++) {
                Probe without = new Probe(done, null);
                Probe with = new Probe(done, call);
                without.look(kind);
                with.look(kind);
                if (!without.answers.equals(with.answers)) {
                    fault(Arrays.toString(call) + " changed something that probe " + kind + " sees");
                }
                if (with.made > MOST_CALLS) {
                    fault("a probe makes " + with.made + " calls");
                }
            }
        }
    }

    /** Looks at all that an object answers; what a look changes is no matter, each has its own object. */
    private static final class Probe {
        static final int KINDS = 4;
        private static final int RECORDS = 6;

        private final CatalogueLoader loader = new CatalogueLoader();
        private final List<Object> answers = new ArrayList<>();
        private int made = 0;

        Probe(List<Object[]> done, Object[] call) {
            for (Object[] step : done) {
                ask(loader, step);
            }
            made = done.size();
            if (call != null) {
                ask(loader, call);
                made++;
            }
        }

        void look(int kind) {
            switch (kind) {
                case 0:
                    lookAtRecords();
                    break;
                case 1:
                    lookAtDraftAndSettings();
                    break;
                case 2:
                    lookAtRules();
                    break;
                default:
                    lookAtWhatIsLeft();
                    break;
            }
        }

        private Object see(String name, Object... args) {
            made++;
            Object answer = ask(loader, call(name, args));
            answers.add(String.valueOf(answer));
            return answer;
        }

        private void lookAtRecords() {
            for (String name : new String[] {"batches", "loads", "records", "digest", "digestAnew"}) {
                see(name);
            }
            int batches = (Integer) see("batches");
            for (int batch = 0; batch < batches; batch++) {
                see("isUndone", batch);
            }
            int loads = (Integer) see("loads");
            for (int load = 0; load < loads; load++) {
                see("hit", load);
                see("isThere", load);
            }
            for (int record = 0; record < Math.min(loads, RECORDS); record++) {
                for (int place = 0; place < 4; place++) {
                    see("keyOf", record, place);
                    see("fieldOf", record, place);
                    see("sourceOf", record, place);
                    see("protect", record, place, false);
                }
                see("holdings", record);
            }
        }

        /** While nothing was loaded, the ranks and rules answer; the order is told by what it leads to. */
        private void lookAtDraftAndSettings() {
            for (int place = 0; place < 4; place++) {
                see("key", place, -1);
                see("field", place, -1);
                see("setRank", place, place);
                see("setRule", place, 1);
            }
            see("setRank", 4, 4);
            see("beginBatch");
            for (int code = 0; code < 3; code++) {
                for (int key = 0; key < 3; key++) {
                    see("key", key, 43 + code);
                    see("load", 0);
                }
                for (int key = 0; key < 3; key++) {
                    see("key", key, key == code ? -1 : 43 + code);
                }
                see("load", 0);
            }
        }

        /** The ranks and rules are told by what becomes of a record, the draft by what it gives. */
        private void lookAtRules() {
            see("beginBatch");
            see("load", 0);
            int[] sources = {0, 1, 2, 3, 4, 3, 2, 1, 0};
            for (int turn = 0; turn < sources.length; turn++) {
                for (int key = 0; key < 3; key++) {
                    see("key", key, 48);
                }
                for (int field = 0; field < 4; field++) {
                    see("field", field, 80 + turn);
                }
                Object record = see("load", sources[turn]);
                for (int field = 0; field < 4; field++) {
                    see("fieldOf", record instanceof Integer ? record : -1, field);
                }
            }
            see("digest");
        }

        private void lookAtWhatIsLeft() {
            while (!(see("beginBatch") instanceof String)) {
                answers.add("batch");
            }
            Object record = see("load", 0);
            while (!(see("load", 0) instanceof String)) {
                answers.add("load");
            }
            int held = 0;
            int there = 0;
            while (there < 80 && !(boolean) see("isThere", there)) {
                there++;
            }
            while (held < 101 && !(see("hold", there) instanceof String)) {
                held++;
            }
            answers.add(record + " " + held);
        }
    }
}
