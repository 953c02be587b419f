import java.util.ArrayDeque;
import java.util.ArrayList;
import java.util.Arrays;
import java.util.Collections;
import java.util.HashSet;
import java.util.IdentityHashMap;
import java.util.List;
import java.util.Random;
import java.util.Set;
import java.util.TreeMap;
import java.util.TreeSet;

/** Long runs of drawn calls, each answered a second time by a model that is written from the document in another way. */
public final class ModelRuns {
    private static final int CALLS = 512;
    private static final int RUNS = 6000;
    private static final String[] NAMES = {"table", "row", "share", "fall", "put", "get", "real", "told", "odd", "copy",
        "turned", "product", "distances", "pack", "word", "alike", "same", "total", "entered", "deep", "count", "clear"};

    private static int wrong = 0;
    private static final TreeMap<String, TreeSet<String>> seen = new TreeMap<>();

    public static void main(String[] args) {
        for (int run = 1; run <= RUNS && wrong < 20; run++) {
            oneRun(run);
        }
        if (wrong == 0) {
            checkThatAllWasSeen();
        }
        System.out.println(wrong == 0 ? "all answers are as due" : wrong + " answers are not as due");
        if (wrong != 0) {
            System.exit(1);
        }
    }

    private static void oneRun(int run) {
        Draw draw = new Draw(run);
        NestTables tables = new NestTables();
        Model model = new Model();
        List<String> calls = new ArrayList<>();
        for (int c = 0; c < CALLS; c++) {
            int[] call = draw.call(model);
            double got = ask(tables, call);
            double due = model.ask(call);
            String text = text(call);
            calls.add(text + " = " + got);
            note(call, due, model);
            if (Double.compare(got, due) != 0) {
                wrong++;
                System.out.println("run " + run + ", call " + (c + 1) + ": " + text + " answered " + got + ", due is " + due);
                System.out.println("    behind " + calls.subList(Math.max(0, calls.size() - 12), calls.size()));
                return;
            }
        }
    }

    private static String text(int[] call) {
        StringBuilder text = new StringBuilder(NAMES[call[0]]).append('(');
        for (int k = 1; k < call.length; k++) {
            text.append(k > 1 ? ", " : "").append(call[k]);
        }
        return text.append(')').toString();
    }

    private static double ask(NestTables x, int[] c) {
        switch (NAMES[c[0]]) {
            case "table": return x.table(c[1], c[2]);
            case "row": return x.row(c[1], c[2], c[3]);
            case "share": return x.share(c[1], c[2], c[3], c[4]);
            case "fall": return x.fall(c[1], c[2]);
            case "put": return x.put(c[1], c[2], c[3], c[4]);
            case "get": return x.get(c[1], c[2], c[3]);
            case "real": return x.real(c[1], c[2], c[3]);
            case "told": return x.told(c[1], c[2], c[3]);
            case "odd": return x.odd(c[1]);
            case "copy": return x.copy(c[1], c[2], c[3], c[4], c[5], c[6], c[7]);
            case "turned": return x.turned(c[1]);
            case "product": return x.product(c[1], c[2]);
            case "distances": return x.distances(c[1]);
            case "pack": return x.pack(c[1]);
            case "word": return x.word(c[1]);
            case "alike": return x.alike(c[1], c[2]);
            case "same": return x.same(c[1], c[2], c[3], c[4]);
            case "total": return x.total(c[1]);
            case "entered": return x.entered();
            case "deep": return x.deep(c[1]);
            case "count": return x.count(c[1]);
            default: return x.clear();
        }
    }

    private static void note(int[] call, double due, Model model) {
        TreeSet<String> answers = seen.computeIfAbsent(NAMES[call[0]], name -> new TreeSet<>());
        if (due <= -1000001 && due >= -1000016) {
            answers.add(String.valueOf((int) due));
        } else {
            answers.add("answer");
        }
        if (Double.isInfinite(due)) {
            answers.add("endless");
        }
        if (model.sawNoNumber) {
            answers.add("no number");
            model.sawNoNumber = false;
        }
    }

    private static void checkThatAllWasSeen() {
        String unknown = "-1000001", outside = "-1000002", state = "-1000003", room = "-1000004", none = "-1000009";
        String isNull = "-1000011", index = "-1000012", store = "-1000013", size = "-1000014", ring = "-1000015", spent = "-1000016";
        expect("table", outside, room, size);
        expect("row", unknown, outside, index, size);
        expect("share", unknown, index, isNull, store);
        expect("fall", unknown, index);
        expect("put", unknown, index, isNull);
        expect("get", unknown, index, isNull, none, "no number");
        expect("real", "endless", "no number");
        expect("told", unknown, outside, index, isNull);
        expect("odd", unknown, none);
        expect("copy", unknown, index, isNull, store);
        expect("turned", unknown, state, room);
        expect("product", unknown, state, room);
        expect("distances", unknown, state, room);
        expect("pack", unknown, state, isNull);
        expect("word", none);
        expect("alike", unknown, "no number");
        expect("same", unknown, index);
        expect("total", unknown, isNull, ring, spent, "no number");
        expect("deep", unknown, ring);
        expect("count", outside);
        expect("entered");
        expect("clear");
    }

    private static void expect(String name, String... answers) {
        Set<String> got = seen.getOrDefault(name, new TreeSet<>());
        List<String> due = new ArrayList<>(Arrays.asList(answers));
        due.add("answer");
        due.removeAll(got);
        if (!due.isEmpty()) {
            wrong++;
            System.out.println("the runs never came to " + due + " of " + name);
        }
    }

    /** Draws calls that are mostly in bounds, in runs of several tempers. */
    private static final class Draw {
        private final Random random;
        private final int temper;
        private final int size;
        private final ArrayDeque<int[]> opening = new ArrayDeque<>();

        Draw(int run) {
            random = new Random(run * 7919L);
            temper = run % 6;
            size = 1 + random.nextInt(temper == 4 ? 12 : 4);
            if (temper == 2 && random.nextBoolean()) {
                openWithPowers();
            }
            if (temper == 5 && random.nextBoolean()) {
                openWithManyLinks();
            }
        }

        /** Powers of powers soon leave the doubles, and then become no number. */
        private void openWithPowers() {
            opening.add(new int[] {0, 2, size});
            for (int i = 0; i < size; i++) {
                opening.add(new int[] {1, 0, i, size});
                for (int j = 0; j < size; j++) {
                    opening.add(new int[] {4, 0, i, j, random.nextInt(4) == 0 ? 0 : random.nextInt()});
                }
            }
            int powers = 6 + random.nextInt(5);
            for (int k = 0; k < powers; k++) {
                opening.add(new int[] {11, k, random.nextInt(5) == 0 ? 0 : k});
            }
        }

        /** Rows of many links, each table to the next, so that a total may enter more than it is allowed. */
        private void openWithManyLinks() {
            int tables = 3 + random.nextInt(4);
            for (int t = 0; t < tables; t++) {
                opening.add(new int[] {0, t == tables - 1 ? random.nextInt(3) : 3, 1});
                opening.add(new int[] {1, t, 0, 16});
            }
            for (int t = 0; t < tables - 1; t++) {
                int links = 4 + random.nextInt(13);
                for (int j = 0; j < links; j++) {
                    opening.add(new int[] {4, t, 0, j, t + 1});
                }
            }
        }

        int[] call(Model model) {
            if (!opening.isEmpty()) {
                return opening.remove();
            }
            int name = name(model);
            int t = table(model);
            int o = random.nextInt(4) == 0 ? t : table(model);
            switch (NAMES[name]) {
                case "table": return new int[] {name, kind(), places()};
                case "row": return new int[] {name, t, place(model, t), cells()};
                case "share": return new int[] {name, t, place(model, t), o, place(model, o)};
                case "fall": return new int[] {name, t, place(model, t)};
                case "put": return put(model, name, t);
                case "get":
                case "real": return at(model, name, t);
                case "told": return new int[] {name, t, place(model, t), edge(3)};
                case "copy": return copy(model, name, t, o);
                case "product":
                case "alike": return new int[] {name, t, o};
                case "word": return new int[] {name, edge(7)};
                case "same": return new int[] {name, t, place(model, t), o, place(model, o)};
                case "count": return new int[] {name, edge(4)};
                case "entered":
                case "clear": return new int[] {name};
                default: return new int[] {name, t};
            }
        }

        private int name(Model model) {
            if (model.tables.isEmpty() && random.nextInt(10) > 0) {
                return 0;
            }
            if (temper == 5) {
                return Arrays.asList(NAMES).indexOf(temperFiveName());
            }
            int drawn = random.nextInt(100);
            if (drawn < 20) {
                return 1;
            }
            if (drawn < 45) {
                return 4;
            }
            int name = random.nextInt(NAMES.length);
            boolean seldom = name == 21 && random.nextInt(8) > 0 || name == 3 && random.nextInt(3) > 0
                || (name == 0 || name >= 10 && name <= 12) && random.nextInt(3) > 0;
            return seldom ? 5 : name;
        }

        private String temperFiveName() {
            String[] names = {"table", "row", "row", "row", "put", "put", "put", "put", "put", "put", "share", "share", "copy",
                "copy", "total", "entered", "deep", "count", "get"};
            String name = names[random.nextInt(names.length)];
            return name.equals("table") && random.nextInt(4) > 0 ? "put" : name;
        }

        private int kind() {
            if (random.nextInt(30) == 0) {
                return random.nextBoolean() ? -1 : 4;
            }
            if (random.nextInt(6) == 0) {
                return random.nextInt(4);
            }
            return temper < 4 ? temper : temper == 4 ? 0 : 3;
        }

        private int places() {
            int drawn = random.nextInt(40);
            if (drawn == 0) {
                return wild();
            }
            if (drawn < 4) {
                return random.nextInt(13);
            }
            return drawn < 6 ? 0 : temper == 5 ? 1 + random.nextInt(3) : size;
        }

        private int cells() {
            int drawn = random.nextInt(40);
            if (drawn == 0) {
                return wild();
            }
            if (drawn < 4) {
                return random.nextInt(17);
            }
            return drawn < 5 ? 0 : temper == 5 ? 8 + random.nextInt(9) : size;
        }

        private int wild() {
            int[] wilds = {-1, -2, Integer.MIN_VALUE, Integer.MAX_VALUE, 12, 13, 16, 17, 100};
            return wilds[random.nextInt(wilds.length)];
        }

        private int edge(int below) {
            return random.nextInt(12) == 0 ? wild() : random.nextInt(below + 1);
        }

        private int table(Model model) {
            int there = model.tables.size();
            if (there == 0 || random.nextInt(40) == 0) {
                return random.nextBoolean() ? there : wild();
            }
            return random.nextInt(there);
        }

        private int place(Model model, int t) {
            int high = model.has(t) ? model.tables.get(t).places.length : 0;
            if (high == 0 || random.nextInt(40) == 0) {
                return random.nextBoolean() ? high : wild();
            }
            return random.nextInt(high);
        }

        private int cell(Model model, int t, int i) {
            Object row = model.has(t) && i >= 0 && i < model.tables.get(t).places.length ? model.tables.get(t).places[i] : null;
            int length = row == null ? 0 : Model.length(row);
            if (length == 0 || random.nextInt(40) == 0) {
                return random.nextBoolean() ? length : wild();
            }
            return random.nextInt(length);
        }

        private int[] at(Model model, int name, int t) {
            int i = place(model, t);
            return new int[] {name, t, i, cell(model, t, i)};
        }

        private int[] put(Model model, int name, int t) {
            int i = place(model, t);
            return new int[] {name, t, i, cell(model, t, i), value(model, t)};
        }

        private int value(Model model, int t) {
            int kind = model.has(t) ? model.tables.get(t).kind : 0;
            if (kind == 3) {
                return link(model, t);
            }
            int drawn = random.nextInt(10);
            if (drawn == 0) {
                return random.nextInt();
            }
            if (drawn == 1) {
                return random.nextBoolean() ? Integer.MAX_VALUE : Integer.MIN_VALUE;
            }
            if (kind == 2 && drawn < 6) {
                return random.nextInt(2000001) * 1000 - 1000000000;
            }
            return kind == 2 ? random.nextInt(20001) - 10000 : random.nextInt(7) / 2 - (kind == 0 ? 0 : 1);
        }

        private int link(Model model, int t) {
            int drawn = random.nextInt(20);
            if (drawn == 0) {
                return NestTables.NONE;
            }
            if (drawn == 1) {
                return random.nextBoolean() ? model.tables.size() : wild();
            }
            if (drawn == 2) {
                return table(model);
            }
            // mostly onward, so that not every run ends in a ring at once
            return t + 1 + random.nextInt(2) < model.tables.size() ? t + 1 + random.nextInt(2) : NestTables.NONE;
        }

        private int[] copy(Model model, int name, int t, int other) {
            int o = random.nextInt(3) == 0 ? t : other;
            int i = place(model, t);
            int j = random.nextInt(4) == 0 && o == t ? i : place(model, o);
            return new int[] {name, t, i, random.nextInt(3), o, j, random.nextInt(3), random.nextInt(14) == 0 ? wild() : random.nextInt(5)};
        }
    }

    /** The document's words once more, with the arrays, numbers and exceptions that Java has. */
    private static final class Model {
        private static final class Refused extends RuntimeException {
            private static final long serialVersionUID = 1L;
            private final int code;

            Refused(int code) {
                super(null, null, false, false);
                this.code = code;
            }
        }

        private static final class Tab {
            private final int kind;
            private final Object[] places;

            Tab(int kind, int n) {
                this.kind = kind;
                this.places = new Object[n];
            }
        }

        private static final int NULL = -1000011, INDEX = -1000012, STORE = -1000013, SIZE = -1000014, RING = -1000015, SPENT = -1000016;

        private List<Tab> tables = new ArrayList<>();
        private int[] packed = new int[0];
        private int failed = 0;
        private int entered = 0;
        private boolean sawNoNumber = false;

        boolean has(int t) {
            return t >= 0 && t < tables.size();
        }

        static int length(Object row) {
            return java.lang.reflect.Array.getLength(row);
        }

        double ask(int[] c) {
            if (NAMES[c[0]].equals("real")) {
                return real(c[1], c[2], c[3]);
            }
            try {
                return answer(NAMES[c[0]], c);
            } catch (Refused refused) {
                if (refused.code <= NULL) {
                    failed++;
                }
                return refused.code;
            }
        }

        private int answer(String name, int[] c) {
            switch (name) {
                case "table": return table(c[1], c[2]);
                case "row": return row(c[1], c[2], c[3]);
                case "share": return share(c[1], c[2], c[3], c[4]);
                case "fall": return fall(c[1], c[2]);
                case "put": return put(c[1], c[2], c[3], c[4]);
                case "get": return get(c[1], c[2], c[3]);
                case "told": return told(c[1], c[2], c[3]);
                case "odd": return odd(tab(c[1]));
                case "copy": return copy(c);
                case "turned": return turned(c[1]);
                case "product": return product(c[1], c[2]);
                case "distances": return distances(c[1]);
                case "pack": return pack(c[1]);
                case "word": return c[1] >= 0 && c[1] < packed.length ? packed[c[1]] : NestTables.NONE;
                case "alike": return alike(tab(c[1]), tab(c[2]));
                case "same": return same(c[1], c[2], c[3], c[4]);
                case "total": return total(c[1]);
                case "entered": return entered;
                case "deep": return deep(c[1]);
                case "count": return count(c[1]);
                default: return clear();
            }
        }

        private Tab tab(int t) {
            need(has(t), NestTables.UNKNOWN);
            return tables.get(t);
        }

        private static void need(boolean holds, int code) {
            if (!holds) {
                throw new Refused(code);
            }
        }

        private static Object fresh(int kind, int cells) {
            switch (kind) {
                case 0: return new boolean[cells];
                case 1: return new int[cells];
                case 2: return new double[cells];
                default: return new Tab[cells];
            }
        }

        private static void needPlace(Tab t, int i) {
            need(i >= 0 && i < t.places.length, INDEX);
        }

        private static Object rowAt(Tab t, int i) {
            needPlace(t, i);
            need(t.places[i] != null, NULL);
            return t.places[i];
        }

        private int added(Tab t) {
            need(tables.size() < 16, NestTables.ROOM);
            tables.add(t);
            return tables.size() - 1;
        }

        private int table(int kind, int n) {
            need(kind >= 0 && kind <= 3 && n <= 12, NestTables.OUTSIDE);
            need(tables.size() < 16, NestTables.ROOM);
            need(n >= 0, SIZE);
            return added(new Tab(kind, n));
        }

        private int row(int t, int i, int cells) {
            Tab tab = tab(t);
            need(cells <= 16, NestTables.OUTSIDE);
            need(cells >= 0, SIZE);
            needPlace(tab, i);
            tab.places[i] = fresh(tab.kind, cells);
            return 1;
        }

        private int share(int t, int i, int o, int j) {
            Tab to = tab(t);
            Tab from = tab(o);
            needPlace(from, j);
            needPlace(to, i);
            need(from.places[j] != null, NULL);
            need(to.kind == from.kind, STORE);
            to.places[i] = from.places[j];
            return 1;
        }

        private int fall(int t, int i) {
            Tab tab = tab(t);
            needPlace(tab, i);
            boolean stood = tab.places[i] != null;
            tab.places[i] = null;
            return stood ? 1 : 0;
        }

        private int put(int t, int i, int j, int v) {
            Tab tab = tab(t);
            Tab link = tab.kind == 3 && v != NestTables.NONE ? tab(v) : null;
            Object row = rowAt(tab, i);
            need(j >= 0 && j < length(row), INDEX);
            if (row instanceof boolean[] bits) {
                bits[j] = v != 0;
            } else if (row instanceof int[] numbers) {
                numbers[j] = v;
            } else if (row instanceof double[] reals) {
                reals[j] = (double) v / 1000.0;
            } else {
                ((Tab[]) row)[j] = link;
            }
            return 1;
        }

        private int whole(Object row, int j) {
            if (row instanceof boolean[] bits) {
                return bits[j] ? 1 : 0;
            }
            if (row instanceof int[] numbers) {
                return numbers[j];
            }
            if (row instanceof double[] reals) {
                sawNoNumber |= Double.isNaN(reals[j]);
                return (int) reals[j];
            }
            Tab link = ((Tab[]) row)[j];
            return link == null ? NestTables.NONE : tables.indexOf(link);
        }

        private int get(int t, int i, int j) {
            Object row = rowAt(tab(t), i);
            need(j >= 0 && j < length(row), INDEX);
            return whole(row, j);
        }

        private double real(int t, int i, int j) {
            try {
                get(t, i, j);
            } catch (Refused refused) {
                return 0.0;
            }
            if (tab(t).kind != 2) {
                return 0.0;
            }
            double there = ((double[]) tab(t).places[i])[j];
            return Double.isNaN(there) ? 0.0 : there;
        }

        private int told(int t, int i, int what) {
            Tab tab = tab(t);
            need(what >= 0 && what <= 2, NestTables.OUTSIDE);
            return what == 0 ? tab.kind : what == 1 ? tab.places.length : length(rowAt(tab, i));
        }

        private static int odd(Tab tab) {
            int i = 0;
            while (i < tab.places.length) {
                if (tab.places[i] == null || length(tab.places[i]) != tab.places.length) {
                    return i;
                }
                i++;
            }
            return NestTables.NONE;
        }

        private int copy(int[] c) {
            Tab source = tab(c[1]);
            Tab target = tab(c[4]);
            needPlace(source, c[2]);
            needPlace(target, c[5]);
            Object from = rowAt(source, c[2]);
            Object to = rowAt(target, c[5]);
            try {
                System.arraycopy(from, c[3], to, c[6], c[7]);
            } catch (ArrayStoreException e) {
                throw new Refused(STORE);
            } catch (IndexOutOfBoundsException e) {
                throw new Refused(INDEX);
            }
            return 1;
        }

        private static int wideIfEven(Tab tab) {
            Set<Integer> lengths = new HashSet<>();
            for (Object row : tab.places) {
                need(row != null, NestTables.STATE);
                lengths.add(length(row));
            }
            need(lengths.size() <= 1, NestTables.STATE);
            return lengths.isEmpty() ? 0 : lengths.iterator().next();
        }

        private static Tab full(int kind, int high, int wide) {
            Tab made = new Tab(kind, high);
            for (int x = 0; x < high; x++) {
                made.places[x] = fresh(kind, wide);
            }
            return made;
        }

        private int turned(int t) {
            Tab tab = tab(t);
            int wide = wideIfEven(tab);
            need(wide <= 12, NestTables.STATE);
            Tab made = full(tab.kind, wide, tab.places.length);
            for (int x = 0; x < wide; x++) {
                for (int y = 0; y < tab.places.length; y++) {
                    System.arraycopy(tab.places[y], x, made.places[x], y, 1);
                }
            }
            return added(made);
        }

        private int product(int t, int o) {
            Tab first = tab(t);
            Tab second = tab(o);
            need(first.kind != 3 && first.kind == second.kind, NestTables.STATE);
            int inner = wideIfEven(first);
            int wide = wideIfEven(second);
            need(inner == second.places.length, NestTables.STATE);
            Tab made = full(first.kind, first.places.length, wide);
            for (int x = 0; x < first.places.length; x++) {
                for (int y = 0; y < wide; y++) {
                    for (int k = 0; k < inner; k++) {
                        addProduct(made.places[x], y, first.places[x], k, second.places[k]);
                    }
                }
            }
            return added(made);
        }

        private static void addProduct(Object to, int y, Object left, int k, Object right) {
            if (to instanceof boolean[] bits) {
                bits[y] = bits[y] || ((boolean[]) left)[k] && ((boolean[]) right)[y];
            } else if (to instanceof int[] numbers) {
                numbers[y] += ((int[]) left)[k] * ((int[]) right)[y];
            } else {
                ((double[]) to)[y] += ((double[]) left)[k] * ((double[]) right)[y];
            }
        }

        private int distances(int t) {
            Tab tab = tab(t);
            need(tab.kind == 0 && odd(tab) == NestTables.NONE, NestTables.STATE);
            int n = tab.places.length;
            Tab made = full(1, n, n);
            for (int x = 0; x < n; x++) {
                int[] ways = (int[]) made.places[x];
                Arrays.fill(ways, -1);
                ways[x] = 0;
                List<Integer> reached = new ArrayList<>(List.of(x));
                for (int next = 0; next < reached.size(); next++) {
                    boolean[] steps = (boolean[]) tab.places[reached.get(next)];
                    for (int y = 0; y < n; y++) {
                        if (steps[y] && !reached.contains(y)) {
                            ways[y] = ways[reached.get(next)] + 1;
                            reached.add(y);
                        }
                    }
                }
            }
            return added(made);
        }

        private int pack(int t) {
            Tab tab = tab(t);
            need(tab.kind == 0, NestTables.STATE);
            List<Boolean> bits = new ArrayList<>();
            for (Object row : tab.places) {
                need(row != null, NULL);
                for (boolean bit : (boolean[]) row) {
                    bits.add(bit);
                }
            }
            packed = new int[(int) Math.ceil(bits.size() / 32.0)];
            for (int k = 0; k < bits.size(); k++) {
                packed[k / 32] += bits.get(k) ? 1 << k % 32 : 0;
            }
            return packed.length;
        }

        private int alike(Tab one, Tab two) {
            if (one.kind != two.kind || one.places.length != two.places.length) {
                return 0;
            }
            for (int i = 0; i < one.places.length; i++) {
                if (!alikeRows(one.places[i], two.places[i])) {
                    return 0;
                }
            }
            return 1;
        }

        private boolean alikeRows(Object one, Object two) {
            if (one == null || two == null) {
                return one == two;
            }
            if (length(one) != length(two)) {
                return false;
            }
            for (int j = 0; j < length(one); j++) {
                boolean differ = one instanceof double[] a ? a[j] != ((double[]) two)[j] : whole(one, j) != whole(two, j);
                sawNoNumber |= one instanceof double[] b && Double.isNaN(b[j]);
                if (differ) {
                    return false;
                }
            }
            return true;
        }

        private int same(int t, int i, int o, int j) {
            Tab one = tab(t);
            Tab two = tab(o);
            needPlace(one, i);
            needPlace(two, j);
            return one.places[i] != null && one.places[i] == two.places[j] ? 1 : 0;
        }

        private int total(int t) {
            Tab tab = tab(t);
            entered = 0;
            return total(tab, new ArrayList<>());
        }

        private int total(Tab tab, List<Tab> path) {
            need(!path.contains(tab), RING);
            need(entered < 1000, SPENT);
            entered++;
            List<Tab> longer = new ArrayList<>(path);
            longer.add(tab);
            int sum = 0;
            for (Object row : tab.places) {
                need(row != null, NULL);
                for (int j = 0; j < length(row); j++) {
                    if (!(row instanceof Tab[] links)) {
                        sum += whole(row, j);
                    } else if (links[j] != null) {
                        sum += total(links[j], longer);
                    }
                }
            }
            return sum;
        }

        /** Longest ways by rounds: what still grows behind as many rounds as there are tables comes round. */
        private int deep(int t) {
            tab(t);
            int[] depth = new int[tables.size()];
            boolean[] linked = reachable(t);
            for (int round = 0; round <= tables.size() + 1; round++) {
                boolean grows = false;
                for (int k = 0; k < depth.length; k++) {
                    int now = linked[k] ? depthNow(tables.get(k), depth) : 0;
                    grows |= now != depth[k];
                    depth[k] = now;
                }
                if (!grows) {
                    return depth[t];
                }
            }
            throw new Refused(RING);
        }

        private boolean[] reachable(int t) {
            boolean[] linked = new boolean[tables.size()];
            linked[t] = true;
            for (int round = 0; round < tables.size(); round++) {
                for (int k = 0; k < linked.length; k++) {
                    if (linked[k]) {
                        links(tables.get(k)).forEach(link -> linked[tables.indexOf(link)] = true);
                    }
                }
            }
            return linked;
        }

        private static List<Tab> links(Tab tab) {
            List<Tab> links = new ArrayList<>();
            for (Object row : tab.places) {
                if (row instanceof Tab[] cells) {
                    links.addAll(Arrays.asList(cells));
                }
            }
            links.removeIf(link -> link == null);
            return links;
        }

        private int depthNow(Tab tab, int[] depth) {
            if (tab.kind != 3) {
                return 0;
            }
            int deepest = 0;
            for (Tab link : links(tab)) {
                deepest = Math.max(deepest, depth[tables.indexOf(link)]);
            }
            return deepest + 1;
        }

        private int count(int what) {
            need(what >= 0 && what <= 3, NestTables.OUTSIDE);
            Set<Object> rows = Collections.newSetFromMap(new IdentityHashMap<>());
            int fallen = 0;
            for (Tab tab : tables) {
                for (Object row : tab.places) {
                    fallen += row == null ? 1 : 0;
                    rows.add(row);
                }
            }
            rows.remove(null);
            return new int[] {tables.size(), rows.size(), fallen, failed}[what];
        }

        private int clear() {
            int there = tables.size();
            tables = new ArrayList<>();
            packed = new int[0];
            failed = 0;
            entered = 0;
            return there;
        }
    }
}
