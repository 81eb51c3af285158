import java.util.ArrayList;
import java.util.Arrays;
import java.util.List;
import java.util.Map;
import java.util.Random;
import java.util.TreeMap;

/**
 * Long runs of calls, the same ones each time, put to the program and to a plain model that
 * tells every answer by going through all that was done from the beginning on.
 */
public final class ModelTest {
    private static final int RUNS = 400;
    private static final int CALLS = 512;
    private static final String INDEX = "IndexOutOfBoundsException";
    private static final String ARGUMENT = "IllegalArgumentException";
    private static final String STATE = "IllegalStateException";

    public static void main(String[] args) {
        int wrong = 0;
        for (int run = 0; run < RUNS && wrong == 0; run++) {
            wrong += compare(run) ? 0 : 1;
        }
        System.out.println(wrong == 0 ? RUNS + " runs agree with the model" : "the model disagrees");
        System.exit(wrong == 0 ? 0 : 1);
    }

    private static boolean compare(int run) {
        Random random = new Random(run);
        CatalogueLoader program = new CatalogueLoader();
        Model model = new Model();
        List<String> calls = new ArrayList<>();
        int settings = run % 3 == 0 ? 0 : 25;
        int keyValues = 1 + random.nextInt(12);
        for (int call = 0; call < CALLS; call++) {
            String name = call < settings ? Model.SETTINGS[random.nextInt(3)] : pick(random, run % 4);
            int a = number(random, name, 0, keyValues, model);
            int b = number(random, name, 1, keyValues, model);
            int c = number(random, name, 2, keyValues, model);
            Object want = model.ask(name, a, b, c);
            Object got = ask(program, name, a, b, c);
            calls.add(name + "(" + a + ", " + b + ", " + c + ") " + got);
            if (!want.equals(got)) {
                for (String line : calls) {
                    System.out.println(line);
                }
                System.out.println("run " + run + ", due is " + want);
                return false;
            }
        }
        return true;
    }

    private static String pick(Random random, int kind) {
        int dice = random.nextInt(100);
        if (dice < 22) {
            return "key";
        }
        if (dice < 38) {
            return "field";
        }
        if (dice < (kind == 0 ? 75 : 56)) {
            return "load";
        }
        if (dice < (kind == 1 ? 90 : 66)) {
            return Model.ACTS[random.nextInt(8)];
        }
        if (dice < 76) {
            return random.nextInt(6) == 0 ? "beginBatch" : "undo";
        }
        return Model.READERS[random.nextInt(Model.READERS.length)];
    }

    /** Mostly a number that fits, at times one at an edge or far outside. */
    private static int number(Random random, String name, int place, int keyValues, Model model) {
        if (random.nextInt(60) == 0) {
            int[] odd = {-2, -1, 0, 2, 3, 4, 5, 9, 10, 49, 50, 79, 80, 99, 100, Integer.MAX_VALUE, Integer.MIN_VALUE};
            return odd[random.nextInt(odd.length)];
        }
        switch (name) {
            case "key":
                return place == 0 ? random.nextInt(3) : random.nextInt(keyValues);
            case "field":
                return place == 0 ? random.nextInt(4) : random.nextInt(100);
            case "load":
                return random.nextInt(5);
            case "setRank":
                return place == 0 ? random.nextInt(5) : random.nextInt(10);
            case "setRule":
                return place == 0 ? random.nextInt(4) : random.nextInt(3);
            case "setOrder":
                return random.nextInt(3);
            case "undo":
            case "isUndone":
                return place == 0 ? random.nextInt(Math.max(1, model.batches)) : random.nextInt(2);
            case "hit":
                return random.nextInt(Math.max(1, model.loads.size()));
            case "protect":
            case "keyOf":
            case "fieldOf":
            case "sourceOf":
                return place == 0 ? record(random, model) : random.nextInt(place == 1 ? 4 : 2);
            default:
                return record(random, model);
        }
    }

    private static int record(Random random, Model model) {
        List<Integer> there = new ArrayList<>(model.anew().records.keySet());
        if (there.isEmpty() || random.nextInt(10) == 0) {
            return random.nextInt(80);
        }
        return there.get(random.nextInt(there.size()));
    }

    private static Object ask(CatalogueLoader x, String name, int a, int b, int c) {
        try {
            switch (name) {
                case "setRank": return x.setRank(a, b);
                case "setRule": return x.setRule(a, b);
                case "setOrder": x.setOrder(a, b, c); return "";
                case "beginBatch": return x.beginBatch();
                case "key": return x.key(a, b);
                case "field": return x.field(a, b);
                case "load": return x.load(a);
                case "protect": return x.protect(a, b, c == 1);
                case "hold": return x.hold(a);
                case "merge": return x.merge(a, b);
                case "undo": return x.undo(a, b == 1);
                case "batches": return x.batches();
                case "loads": return x.loads();
                case "records": return x.records();
                case "isUndone": return x.isUndone(a);
                case "isThere": return x.isThere(a);
                case "hit": return x.hit(a);
                case "keyOf": return x.keyOf(a, b);
                case "fieldOf": return x.fieldOf(a, b);
                case "sourceOf": return x.sourceOf(a, b);
                case "holdings": return x.holdings(a);
                case "digest": return x.digest();
                default: return x.digestAnew();
            }
        } catch (RuntimeException e) {
            return e.getClass().getSimpleName();
        }
    }

    private static final class Item {
        final Map<Integer, Integer> keys = new TreeMap<>();
        final Map<Integer, int[]> fields = new TreeMap<>();
        final boolean[] guarded = new boolean[4];
        int holdings;
    }

    private static final class Load {
        final Map<Integer, Integer> keys;
        final Map<Integer, Integer> fields;
        final int source;
        final int batch;

        Load(Map<Integer, Integer> keys, Map<Integer, Integer> fields, int source, int batch) {
            this.keys = keys;
            this.fields = fields;
            this.source = source;
            this.batch = batch;
        }
    }

    private static final class World {
        final TreeMap<Integer, Item> records = new TreeMap<>();
        final List<Integer> hits = new ArrayList<>();
        Object last = "";
    }

    private static final class Model {
        static final String[] SETTINGS = {"setRank", "setRule", "setOrder"};
        static final String[] ACTS = {"protect", "protect", "protect", "hold", "hold", "hold", "hold", "merge"};
        static final String[] READERS = {"batches", "loads", "records", "isUndone", "isThere", "hit", "keyOf",
            "fieldOf", "fieldOf", "sourceOf", "sourceOf", "holdings", "digest", "digestAnew", "setRank", "setRule",
            "setOrder"};

        final int[] ranks = {0, 1, 2, 3, 4};
        final int[] rules = {1, 1, 1, 1};
        int[] order = {0, 1, 2};
        final boolean[] undone = new boolean[10];
        final List<Load> loads = new ArrayList<>();
        final List<Object[]> done = new ArrayList<>();
        TreeMap<Integer, Integer> draftKeys = new TreeMap<>();
        TreeMap<Integer, Integer> draftFields = new TreeMap<>();
        int batches;
        int acts;

        World anew() {
            World world = new World();
            for (Object[] step : done) {
                if (step[0] instanceof Load) {
                    Load load = (Load) step[0];
                    int hit = undone[load.batch] ? -1 : put(world, load);
                    world.hits.add(hit);
                    world.last = hit;
                } else {
                    act(world, (String) step[0], (Integer) step[1], (Integer) step[2], (Integer) step[3]);
                }
            }
            return world;
        }

        int put(World world, Load load) {
            for (int key : order) {
                List<Integer> found = new ArrayList<>();
                for (Map.Entry<Integer, Item> entry : world.records.entrySet()) {
                    Integer mine = load.keys.get(key);
                    if (mine != null && mine.equals(entry.getValue().keys.get(key))) {
                        found.add(entry.getKey());
                    }
                }
                if (found.size() > 1) {
                    return -2;
                }
                if (found.size() == 1) {
                    lay(world.records.get(found.get(0)), load);
                    return found.get(0);
                }
            }
            Item made = new Item();
            made.keys.putAll(load.keys);
            load.fields.forEach((field, value) -> made.fields.put(field, new int[] {value, load.source}));
            world.records.put(world.hits.size(), made);
            return world.hits.size();
        }

        void lay(Item item, Load load) {
            load.keys.forEach(item.keys::putIfAbsent);
            load.fields.forEach((field, value) -> {
                int[] old = item.fields.get(field);
                boolean goes = old == null || rules[field] == 2
                        || rules[field] == 1 && ranks[load.source] >= ranks[old[1]];
                if (goes && !item.guarded[field]) {
                    item.fields.put(field, new int[] {value, load.source});
                }
            });
        }

        void act(World world, String name, int a, int b, int c) {
            Item item = world.records.get(a);
            if (item == null) {
                return;
            }
            if (name.equals("protect")) {
                world.last = item.guarded[b];
                item.guarded[b] = c == 1;
            } else if (name.equals("hold")) {
                item.holdings++;
                world.last = item.holdings;
            } else if (world.records.containsKey(b)) {
                Item other = world.records.get(b);
                other.holdings += item.holdings;
                item.keys.forEach(other.keys::putIfAbsent);
                item.fields.forEach(other.fields::putIfAbsent);
                world.records.remove(a);
                world.last = other.holdings;
            }
        }

        Object ask(String name, int a, int b, int c) {
            World world = anew();
            boolean record = world.records.containsKey(a);
            switch (name) {
                case "setRank":
                    return set(ranks, a, b, 10);
                case "setRule":
                    return set(rules, a, b, 3);
                case "setOrder":
                    return setOrder(a, b, c);
                case "beginBatch":
                    return batches == 10 ? STATE : (Object) batches++;
                case "key":
                    return draft(draftKeys, 3, 49, a, b);
                case "field":
                    return draft(draftFields, 4, 99, a, b);
                case "load":
                    return load(a);
                case "protect":
                    return !record || b < 0 || b > 3 ? INDEX : acted(name, a, b, c);
                case "hold":
                    return !record ? INDEX : acted(name, a, b, c);
                case "merge":
                    return !record || !world.records.containsKey(b) ? INDEX : a == b ? ARGUMENT : acted(name, a, b, c);
                case "undo":
                    return undo(a, b == 1);
                case "batches":
                    return batches;
                case "loads":
                    return loads.size();
                case "records":
                    return world.records.size();
                case "isUndone":
                    return a < 0 || a >= batches ? INDEX : (Object) undone[a];
                case "isThere":
                    return record;
                case "hit":
                    return a < 0 || a >= loads.size() ? INDEX : (Object) world.hits.get(a);
                case "keyOf":
                    return !record || b < 0 || b > 2 ? INDEX : (Object) world.records.get(a).keys.getOrDefault(b, -1);
                case "fieldOf":
                    return part(world, a, b, 0);
                case "sourceOf":
                    return part(world, a, b, 1);
                case "holdings":
                    return !record ? INDEX : (Object) world.records.get(a).holdings;
                default:
                    return digest(world);
            }
        }

        Object part(World world, int record, int field, int place) {
            if (!world.records.containsKey(record) || field < 0 || field > 3) {
                return INDEX;
            }
            return world.records.get(record).fields.getOrDefault(field, new int[] {-1, -1})[place];
        }

        Object set(int[] row, int place, int value, int bound) {
            if (place < 0 || place >= row.length) {
                return INDEX;
            }
            if (value < 0 || value >= bound) {
                return ARGUMENT;
            }
            if (!loads.isEmpty()) {
                return STATE;
            }
            int before = row[place];
            row[place] = value;
            return before;
        }

        Object setOrder(int a, int b, int c) {
            int[] sorted = {a, b, c};
            Arrays.sort(sorted);
            if (!Arrays.equals(sorted, new int[] {0, 1, 2})) {
                return ARGUMENT;
            }
            if (!loads.isEmpty()) {
                return STATE;
            }
            order = new int[] {a, b, c};
            return "";
        }

        Object draft(TreeMap<Integer, Integer> part, int bound, int most, int place, int value) {
            if (place < 0 || place >= bound) {
                return INDEX;
            }
            if (value < -1 || value > most) {
                return ARGUMENT;
            }
            Integer before = value == -1 ? part.remove(place) : part.put(place, value);
            return before == null ? -1 : before;
        }

        Object load(int source) {
            if (source < 0 || source > 4) {
                return INDEX;
            }
            if (batches == 0 || loads.size() == 80) {
                return STATE;
            }
            Load load = new Load(draftKeys, draftFields, source, batches - 1);
            draftKeys = new TreeMap<>();
            draftFields = new TreeMap<>();
            loads.add(load);
            done.add(new Object[] {load});
            return anew().last;
        }

        Object acted(String name, int a, int b, int c) {
            if (acts == 100) {
                return STATE;
            }
            acts++;
            done.add(new Object[] {name, a, b, c});
            return anew().last;
        }

        Object undo(int batch, boolean undo) {
            if (batch < 0 || batch >= batches) {
                return INDEX;
            }
            if (undone[batch] == undo) {
                return STATE;
            }
            undone[batch] = undo;
            return anew().records.size();
        }

        int digest(World world) {
            int sum = 0;
            for (Map.Entry<Integer, Item> entry : world.records.entrySet()) {
                int factor = 1 + entry.getKey();
                for (int value : entry.getValue().keys.values()) {
                    sum += value * factor;
                }
                for (int[] value : entry.getValue().fields.values()) {
                    sum += value[0] * factor;
                }
                sum += entry.getValue().holdings;
            }
            return sum;
        }
    }
}
