import java.util.function.Supplier;
import java.util.function.ToIntFunction;

/** Each promise of the document: ordinary inputs, the edges it names, and wrong inputs that change nothing. */
public final class PromisesTest {
    private static final int UNKNOWN = NestTables.UNKNOWN, OUTSIDE = NestTables.OUTSIDE, STATE = NestTables.STATE;
    private static final int ROOM = NestTables.ROOM, NONE = NestTables.NONE;
    private static final int NULL = -1000011, INDEX = -1000012, STORE = -1000013, SIZE = -1000014, RING = -1000015, SPENT = -1000016;
    private static final int BITS = 0, NUMBERS = 1, REALS = 2, LINKS = 3;
    private static final int LEAST = Integer.MIN_VALUE, MOST = Integer.MAX_VALUE;

    private static int wrong = 0;

    public static void main(String[] args) {
        promise1NewObject();
        promise2Table();
        promise3Row();
        promise4Share();
        promise5Fall();
        promise6Put();
        promise7Get();
        promise8Real();
        promise9Told();
        promise10Odd();
        promise11Copy();
        promise12Turned();
        promise13Product();
        promise13ProductOfReals();
        promise14Distances();
        promise15Pack();
        promise16Word();
        promise17Alike();
        promise18Same();
        promise19Total();
        promise19WhatComesFirst();
        promise20Entered();
        promise21Deep();
        promise22Count();
        promise23Clear();
        System.out.println(wrong == 0 ? "all answers are as due" : wrong + " answers are not as due");
        if (wrong != 0) {
            System.exit(1);
        }
    }

    private static void due(String what, double got, double want) {
        if (got != want) {
            wrong++;
            System.out.println(what + " answered " + got + ", due is " + want);
        }
    }

    /** The call answers its code, and the object shows afterwards what it shows without the call. */
    private static void refused(Supplier<NestTables> scene, String what, ToIntFunction<NestTables> call, int want) {
        NestTables untouched = scene.get();
        NestTables called = scene.get();
        due(what, call.applyAsInt(called), want);
        int failures = untouched.count(3) + (want <= NULL ? 1 : 0);
        due(what + ", then count(3)", called.count(3), failures);
        String before = picture(untouched);
        String after = picture(called);
        if (!before.equals(after)) {
            wrong++;
            System.out.println(what + " changed\n" + before + "to\n" + after);
        }
    }

    /** All that can be asked without a call that fails, but what total() last entered. */
    private static String picture(NestTables x) {
        StringBuilder text = new StringBuilder();
        int tables = x.count(0);
        text.append(tables).append(" tables, ").append(x.count(1)).append(" rows, ").append(x.count(2)).append(" fallen, words");
        for (int i = 0; i < 6; i++) {
            text.append(' ').append(x.word(i));
        }
        for (int t = 0; t < tables; t++) {
            int high = x.told(t, 0, 1);
            text.append("\n").append(t).append(" of kind ").append(x.told(t, 0, 0)).append(':');
            for (int i = 0; i < high; i++) {
                text.append(x.same(t, i, t, i) == 0 ? " -" : rowPicture(x, t, i));
            }
        }
        return text.append("\n").toString();
    }

    private static String rowPicture(NestTables x, int t, int i) {
        StringBuilder text = new StringBuilder(" (");
        int wide = x.told(t, i, 2);
        boolean ofReals = x.told(t, i, 0) == REALS;
        for (int j = 0; j < wide; j++) {
            text.append(ofReals ? String.valueOf(x.real(t, i, j)) : String.valueOf(x.get(t, i, j))).append(' ');
        }
        return text.append(x.same(t, i, t, 0)).append(')').toString();
    }

    /** Tables with rows of the lengths given, -1 for a place that is fallen. */
    private static int with(NestTables x, int kind, int... lengths) {
        int t = x.table(kind, lengths.length);
        for (int i = 0; i < lengths.length; i++) {
            if (lengths[i] >= 0) {
                x.row(t, i, lengths[i]);
            }
        }
        return t;
    }

    private static int filled(NestTables x, int kind, int[]... values) {
        int t = x.table(kind, values.length);
        for (int i = 0; i < values.length; i++) {
            x.row(t, i, values[i].length);
            for (int j = 0; j < values[i].length; j++) {
                x.put(t, i, j, values[i][j]);
            }
        }
        return t;
    }

    private static void holds(String what, NestTables x, int t, int kind, int[]... values) {
        due(what + ": kind", x.told(t, 0, 0), kind);
        due(what + ": places", x.told(t, 0, 1), values.length);
        for (int i = 0; i < values.length; i++) {
            due(what + ": length of " + i, x.told(t, i, 2), values[i].length);
            for (int j = 0; j < values[i].length; j++) {
                due(what + ": cell " + i + ", " + j, x.get(t, i, j), values[i][j]);
            }
        }
    }

    /** One table of each kind; in each a row of three cells, one of two, and a place that is fallen. */
    private static NestTables scene() {
        NestTables x = new NestTables();
        for (int kind = BITS; kind <= LINKS; kind++) {
            with(x, kind, 3, 2, -1);
        }
        x.put(BITS, 0, 1, 5);
        x.put(NUMBERS, 0, 1, 5);
        x.put(REALS, 0, 1, 5500);
        x.put(LINKS, 0, 1, 1);
        return x;
    }

    private static NestTables fullScene() {
        NestTables x = scene();
        while (x.count(0) < 16) {
            x.table(BITS, 0);
        }
        return x;
    }

    private static void promise1NewObject() {
        NestTables x = new NestTables();
        for (int what = 0; what < 4; what++) {
            due("new: count(" + what + ")", x.count(what), 0);
        }
        due("new: entered()", x.entered(), 0);
        due("new: word(0)", x.word(0), NONE);
        due("new: told(0, 0, 0)", x.told(0, 0, 0), UNKNOWN);
        due("new: clear()", x.clear(), 0);
        NestTables other = new NestTables();
        x.table(0, 1);
        due("new: another object", other.count(0), 0);
    }

    private static void promise2Table() {
        NestTables x = new NestTables();
        for (int number = 0; number < 16; number++) {
            int n = number < 13 ? number : 1;
            due("table: number", x.table(number % 4, n), number);
            due("table: kind", x.told(number, 0, 0), number % 4);
            due("table: places", x.told(number, 0, 1), n);
        }
        due("table: all fallen", x.count(2), 78 + 3);
        due("table: no rows", x.count(1), 0);
        refused(PromisesTest::fullScene, "table full", y -> y.table(0, 1), ROOM);
        refused(PromisesTest::fullScene, "table full, below 0", y -> y.table(0, -1), ROOM);
        refused(PromisesTest::fullScene, "table full, outside", y -> y.table(0, 13), OUTSIDE);
        refused(PromisesTest::fullScene, "table full, no kind", y -> y.table(4, 1), OUTSIDE);
        refused(PromisesTest::scene, "table(-1, 1)", y -> y.table(-1, 1), OUTSIDE);
        refused(PromisesTest::scene, "table(4, 1)", y -> y.table(4, 1), OUTSIDE);
        refused(PromisesTest::scene, "table(4, -1)", y -> y.table(4, -1), OUTSIDE);
        refused(PromisesTest::scene, "table(0, 13)", y -> y.table(0, 13), OUTSIDE);
        refused(PromisesTest::scene, "table(0, most)", y -> y.table(0, MOST), OUTSIDE);
        refused(PromisesTest::scene, "table(0, -1)", y -> y.table(0, -1), SIZE);
        refused(PromisesTest::scene, "table(0, least)", y -> y.table(0, LEAST), SIZE);
    }

    private static void promise3Row() {
        NestTables x = scene();
        due("row", x.row(NUMBERS, 0, 16), 1);
        due("row: length", x.told(NUMBERS, 0, 2), 16);
        due("row: new cells", x.get(NUMBERS, 0, 1), 0);
        due("row without cells", x.row(NUMBERS, 2, 0), 1);
        due("row without cells: length", x.told(NUMBERS, 2, 2), 0);
        x.row(LINKS, 0, 1);
        due("row: new link", x.get(LINKS, 0, 0), NONE);
        x.row(REALS, 0, 1);
        due("row: new real", x.real(REALS, 0, 0), 0.0);
        x.row(BITS, 0, 1);
        due("row: new bit", x.get(BITS, 0, 0), 0);
        x.share(BITS, 1, BITS, 0);
        x.row(BITS, 0, 2);
        due("row: the old one stands elsewhere", x.told(BITS, 1, 2), 1);
        refused(PromisesTest::scene, "row: unknown", y -> y.row(4, 0, 1), UNKNOWN);
        refused(PromisesTest::scene, "row: below", y -> y.row(-1, 0, 17), UNKNOWN);
        refused(PromisesTest::scene, "row: 17", y -> y.row(1, 0, 17), OUTSIDE);
        refused(PromisesTest::scene, "row: most", y -> y.row(1, 3, MOST), OUTSIDE);
        refused(PromisesTest::scene, "row: size", y -> y.row(1, 0, -1), SIZE);
        refused(PromisesTest::scene, "row: size ahead of index", y -> y.row(1, 3, LEAST), SIZE);
        refused(PromisesTest::scene, "row: index", y -> y.row(1, 3, 1), INDEX);
        refused(PromisesTest::scene, "row: index below", y -> y.row(1, -1, 1), INDEX);
        refused(PromisesTest::scene, "row: least", y -> y.row(1, LEAST, 16), INDEX);
    }

    private static void promise4Share() {
        NestTables x = scene();
        int more = with(x, NUMBERS, -1);
        due("share", x.share(more, 0, NUMBERS, 0), 1);
        due("share: same", x.same(more, 0, NUMBERS, 0), 1);
        x.put(more, 0, 2, 9);
        due("share: changes in all", x.get(NUMBERS, 0, 2), 9);
        due("share over a row", x.share(NUMBERS, 0, NUMBERS, 1), 1);
        due("share: the other place stays", x.get(more, 0, 2), 9);
        due("share to itself", x.share(more, 0, more, 0), 1);
        due("share to itself: still there", x.get(more, 0, 2), 9);
        refused(PromisesTest::scene, "share: unknown", y -> y.share(4, 0, 1, 0), UNKNOWN);
        refused(PromisesTest::scene, "share: unknown other", y -> y.share(1, 9, 4, 0), UNKNOWN);
        refused(PromisesTest::scene, "share: index j", y -> y.share(1, 0, 1, 3), INDEX);
        refused(PromisesTest::scene, "share: index i ahead of null", y -> y.share(1, 3, 1, 2), INDEX);
        refused(PromisesTest::scene, "share: index below", y -> y.share(1, -1, 2, 0), INDEX);
        refused(PromisesTest::scene, "share: index j below", y -> y.share(1, 0, 2, -1), INDEX);
        refused(PromisesTest::scene, "share: null", y -> y.share(1, 0, 1, 2), NULL);
        refused(PromisesTest::scene, "share: null ahead of store", y -> y.share(1, 0, 2, 2), NULL);
        refused(PromisesTest::scene, "share: store", y -> y.share(1, 2, 2, 0), STORE);
        refused(PromisesTest::scene, "share: store of bits", y -> y.share(1, 0, 0, 0), STORE);
    }

    private static void promise5Fall() {
        NestTables x = scene();
        x.share(NUMBERS, 2, NUMBERS, 0);
        due("fall", x.fall(NUMBERS, 0), 1);
        due("fall again", x.fall(NUMBERS, 0), 0);
        due("fall: asked", x.get(NUMBERS, 0, 0), NULL);
        due("fall: the row stands elsewhere", x.get(NUMBERS, 2, 1), 5);
        refused(PromisesTest::scene, "fall: unknown", y -> y.fall(4, 0), UNKNOWN);
        refused(PromisesTest::scene, "fall: index", y -> y.fall(1, 3), INDEX);
        refused(PromisesTest::scene, "fall: index below", y -> y.fall(1, -1), INDEX);
    }

    private static void promise6Put() {
        NestTables x = scene();
        for (int v : new int[] {1, -1, LEAST, MOST, 2, NONE, 99}) {
            due("put a bit", x.put(BITS, 0, 0, v), 1);
            due("put a bit: get", x.get(BITS, 0, 0), 1);
            due("put a number", x.put(NUMBERS, 0, 0, v), 1);
            due("put a number: get", x.get(NUMBERS, 0, 0), v);
            due("put a real", x.put(REALS, 0, 0, v), 1);
            due("put a real: real", x.real(REALS, 0, 0), v / 1000.0);
        }
        x.put(BITS, 0, 0, 0);
        due("put a bit away", x.get(BITS, 0, 0), 0);
        for (int v : new int[] {0, 3, NONE}) {
            due("put a link", x.put(LINKS, 0, 2, v), 1);
            due("put a link: get", x.get(LINKS, 0, 2), v);
        }
        due("put: other cells stay", x.get(LINKS, 0, 1), 1);
        refused(PromisesTest::scene, "put: unknown", y -> y.put(4, 0, 0, 0), UNKNOWN);
        refused(PromisesTest::scene, "put: unknown below", y -> y.put(-1, 0, 0, 0), UNKNOWN);
        refused(PromisesTest::scene, "put: v unknown", y -> y.put(LINKS, 0, 0, 4), UNKNOWN);
        refused(PromisesTest::scene, "put: v below", y -> y.put(LINKS, 0, 0, -1), UNKNOWN);
        refused(PromisesTest::scene, "put: v unknown ahead of index", y -> y.put(LINKS, 3, 0, 4), UNKNOWN);
        refused(PromisesTest::scene, "put: v a code", y -> y.put(LINKS, 2, 0, UNKNOWN), UNKNOWN);
        refused(PromisesTest::scene, "put: index", y -> y.put(NUMBERS, 3, 0, 1), INDEX);
        refused(PromisesTest::scene, "put: index below", y -> y.put(NUMBERS, -1, 0, 1), INDEX);
        refused(PromisesTest::scene, "put: null ahead of the cell's index", y -> y.put(NUMBERS, 2, 99, 1), NULL);
        refused(PromisesTest::scene, "put: cell", y -> y.put(NUMBERS, 1, 2, 1), INDEX);
        refused(PromisesTest::scene, "put: cell below", y -> y.put(LINKS, 1, -1, NONE), INDEX);
        refused(PromisesTest::scene, "put: cell most", y -> y.put(BITS, 1, MOST, 1), INDEX);
        refused(PromisesTest::scene, "put: cell least", y -> y.put(REALS, 1, LEAST, 1), INDEX);
    }

    private static void promise7Get() {
        NestTables x = scene();
        due("get a bit", x.get(BITS, 0, 1), 1);
        due("get a number", x.get(NUMBERS, 0, 1), 5);
        due("get a real", x.get(REALS, 0, 1), 5);
        due("get a link", x.get(LINKS, 0, 1), 1);
        due("get no link", x.get(LINKS, 0, 0), NONE);
        x.put(REALS, 0, 0, -1999);
        due("get a real cut to 0's side", x.get(REALS, 0, 0), -1);
        x.put(REALS, 0, 0, 999);
        due("get a small real", x.get(REALS, 0, 0), 0);
        int big = filled(x, REALS, new int[] {MOST, 0}, new int[] {0, LEAST});
        int turn = filled(x, REALS, new int[] {0, 1000000}, new int[] {1000000, 0});
        int beyond = x.product(big, turn);
        due("get beyond 32 bits", x.get(beyond, 0, 1), MOST);
        due("get beyond 32 bits, below", x.get(beyond, 1, 0), LEAST);
        refused(PromisesTest::scene, "get: unknown", y -> y.get(4, 0, 0), UNKNOWN);
        refused(PromisesTest::scene, "get: unknown below", y -> y.get(LEAST, 0, 0), UNKNOWN);
        refused(PromisesTest::scene, "get: index", y -> y.get(1, 3, 0), INDEX);
        refused(PromisesTest::scene, "get: index below", y -> y.get(1, -1, 0), INDEX);
        refused(PromisesTest::scene, "get: null", y -> y.get(1, 2, 99), NULL);
        refused(PromisesTest::scene, "get: cell", y -> y.get(1, 0, 3), INDEX);
        refused(PromisesTest::scene, "get: cell below", y -> y.get(1, 0, -1), INDEX);
        refused(PromisesTest::scene, "get: cell most", y -> y.get(2, 0, MOST), INDEX);
    }

    private static void promise8Real() {
        NestTables x = scene();
        due("real", x.real(REALS, 0, 1), 5.5);
        x.put(REALS, 0, 0, -1);
        due("real below 0", x.real(REALS, 0, 0), -0.001);
        due("real of bits", x.real(BITS, 0, 1), 0.0);
        due("real of numbers", x.real(NUMBERS, 0, 1), 0.0);
        due("real of links", x.real(LINKS, 0, 1), 0.0);
        int[][] refused = {{4, 0, 0}, {-1, 0, 0}, {2, 3, 0}, {2, -1, 0}, {2, 2, 0}, {2, 0, 3}, {2, 0, -1}, {2, LEAST, MOST}};
        for (int[] at : refused) {
            due("real where get is refused", x.real(at[0], at[1], at[2]), 0.0);
        }
        due("real is no fail", x.count(3), 0);
    }

    private static void promise9Told() {
        NestTables x = scene();
        due("told: kind", x.told(REALS, 99, 0), 2);
        due("told: places", x.told(REALS, -1, 1), 3);
        due("told: length", x.told(REALS, 1, 2), 2);
        due("told: no fails", x.count(3), 0);
        refused(PromisesTest::scene, "told: unknown", y -> y.told(4, 0, 3), UNKNOWN);
        refused(PromisesTest::scene, "told: outside", y -> y.told(1, 3, 3), OUTSIDE);
        refused(PromisesTest::scene, "told: outside below", y -> y.told(1, 0, -1), OUTSIDE);
        refused(PromisesTest::scene, "told: index", y -> y.told(1, 3, 2), INDEX);
        refused(PromisesTest::scene, "told: index below", y -> y.told(1, -1, 2), INDEX);
        refused(PromisesTest::scene, "told: null", y -> y.told(1, 2, 2), NULL);
    }

    private static void promise10Odd() {
        NestTables x = new NestTables();
        due("odd: square", x.odd(with(x, BITS, 3, 3, 3)), NONE);
        due("odd: no places", x.odd(with(x, LINKS)), NONE);
        due("odd: fallen", x.odd(with(x, REALS, 3, -1, 2)), 1);
        due("odd: short", x.odd(with(x, NUMBERS, 3, 3, 2)), 2);
        due("odd: long", x.odd(with(x, NUMBERS, 4, 3, -1)), 0);
        due("odd: even, but not square", x.odd(with(x, NUMBERS, 2, 2, 2)), 0);
        due("odd: one place without cells", x.odd(with(x, NUMBERS, 0)), 0);
        due("odd: one cell", x.odd(with(x, NUMBERS, 1)), NONE);
        refused(PromisesTest::scene, "odd: unknown", y -> y.odd(4), UNKNOWN);
        refused(PromisesTest::scene, "odd: unknown below", y -> y.odd(-1), UNKNOWN);
    }

    private static void promise11Copy() {
        NestTables x = new NestTables();
        int from = filled(x, NUMBERS, new int[] {1, 2, 3, 4, 5}, new int[] {6, 7, 8});
        int to = filled(x, NUMBERS, new int[] {0, 0, 0});
        due("copy", x.copy(from, 0, 1, to, 0, 0, 3), 1);
        holds("copy", x, to, NUMBERS, new int[] {2, 3, 4});
        x.put(from, 0, 1, 99);
        due("copy: no row in common", x.get(to, 0, 0), 2);
        x.put(from, 0, 1, 2);
        due("copy onward in one row", x.copy(from, 0, 0, from, 0, 1, 4), 1);
        holds("copy onward", x, from, NUMBERS, new int[] {1, 1, 2, 3, 4}, new int[] {6, 7, 8});
        due("copy back in one row", x.copy(from, 0, 2, from, 0, 0, 3), 1);
        holds("copy back", x, from, NUMBERS, new int[] {2, 3, 4, 3, 4}, new int[] {6, 7, 8});
        x.share(from, 1, from, 0);
        due("copy in one row at two places", x.copy(from, 0, 0, from, 1, 1, 4), 1);
        holds("copy at two places", x, from, NUMBERS, new int[] {2, 2, 3, 4, 3}, new int[] {2, 2, 3, 4, 3});
        due("copy nothing from the end", x.copy(from, 0, 5, to, 0, 3, 0), 1);
        copyOfOtherKinds();
        refusedCopies();
    }

    private static void copyOfOtherKinds() {
        NestTables x = new NestTables();
        int bits = filled(x, BITS, new int[] {1, 0, 1, 1}, new int[] {0, 0, 0, 0});
        x.copy(bits, 0, 1, bits, 1, 2, 2);
        holds("copy of bits", x, bits, BITS, new int[] {1, 0, 1, 1}, new int[] {0, 0, 0, 1});
        int reals = filled(x, REALS, new int[] {1500, -2500, 250}, new int[] {0});
        x.copy(reals, 0, 1, reals, 1, 0, 1);
        due("copy of reals", x.real(reals, 1, 0), -2.5);
        x.copy(reals, 0, 0, reals, 0, 1, 2);
        due("copy of reals in one row", x.real(reals, 0, 2), -2.5);
        due("copy of reals in one row, second", x.real(reals, 0, 1), 1.5);
        int links = filled(x, LINKS, new int[] {0, NONE}, new int[] {1, 1});
        x.copy(links, 0, 0, links, 1, 0, 2);
        holds("copy of links", x, links, LINKS, new int[] {0, NONE}, new int[] {0, NONE});
    }

    private static void refusedCopies() {
        refused(PromisesTest::scene, "copy: unknown", y -> y.copy(4, 0, 0, 1, 0, 0, 1), UNKNOWN);
        refused(PromisesTest::scene, "copy: unknown other", y -> y.copy(1, 9, 0, 4, 0, 0, 1), UNKNOWN);
        refused(PromisesTest::scene, "copy: index i", y -> y.copy(1, 3, 0, 1, 2, 0, 1), INDEX);
        refused(PromisesTest::scene, "copy: index j ahead of null", y -> y.copy(1, 2, 0, 1, -1, 0, 1), INDEX);
        refused(PromisesTest::scene, "copy: null from", y -> y.copy(1, 2, 0, 2, 0, 0, 1), NULL);
        refused(PromisesTest::scene, "copy: null to", y -> y.copy(1, 0, 0, 2, 2, 0, -1), NULL);
        refused(PromisesTest::scene, "copy: store", y -> y.copy(1, 0, 0, 2, 0, 0, 1), STORE);
        refused(PromisesTest::scene, "copy: store of nothing", y -> y.copy(0, 0, 0, 1, 0, 0, 0), STORE);
        refused(PromisesTest::scene, "copy: store ahead of index", y -> y.copy(3, 0, -1, 1, 0, 0, 1), STORE);
        int[][] cells = {{-1, 0, 1}, {0, -1, 1}, {0, 0, -1}, {0, 0, 3}, {2, 0, 2}, {0, 1, 2}, {4, 0, 0}, {0, 3, 0},
            {1, 0, MOST}, {MOST, 0, 1}, {0, MOST, MOST}, {LEAST, 0, 0}, {0, LEAST, LEAST}, {MOST, MOST, MOST}, {1, 1, LEAST}};
        for (int[] c : cells) {
            refused(PromisesTest::scene, "copy: index of cells", y -> y.copy(1, 0, c[0], 1, 1, c[1], c[2]), INDEX);
        }
    }

    private static void promise12Turned() {
        NestTables x = new NestTables();
        int numbers = filled(x, NUMBERS, new int[] {1, 2, 3}, new int[] {4, 5, 6});
        due("turned", x.turned(numbers), 1);
        holds("turned", x, 1, NUMBERS, new int[] {1, 4}, new int[] {2, 5}, new int[] {3, 6});
        x.put(1, 0, 0, 7);
        due("turned: new rows", x.get(numbers, 0, 0), 1);
        int reals = filled(x, REALS, new int[] {1500, 2500});
        due("turned reals", x.real(x.turned(reals), 1, 0), 2.5);
        int links = filled(x, LINKS, new int[] {0, NONE}, new int[] {1, 2});
        holds("turned links", x, x.turned(links), LINKS, new int[] {0, 1}, new int[] {NONE, 2});
        int bits = filled(x, BITS, new int[] {1}, new int[] {0});
        x.share(bits, 1, bits, 0);
        int turnedBits = x.turned(x.turned(bits));
        due("turned twice", x.alike(turnedBits, bits), 1);
        due("turned: all with new rows", x.same(turnedBits, 0, turnedBits, 1), 0);
        holds("turned without cells", x, x.turned(with(x, REALS, 0, 0, 0)), REALS);
        holds("turned without places", x, x.turned(with(x, LINKS)), LINKS);
        due("turned: no fails", x.count(3), 0);
        widestTurned();
        refused(PromisesTest::scene, "turned: unknown", y -> y.turned(4), UNKNOWN);
        refused(PromisesTest::scene, "turned: fallen", y -> y.turned(1), STATE);
        refused(() -> twoOf(-1, 3), "turned: first fallen", y -> y.turned(0), STATE);
        refused(() -> twoOf(-1, -1), "turned: all fallen", y -> y.turned(0), STATE);
        refused(PromisesTest::oneFallen, "turned: the one fallen", y -> y.turned(0), STATE);
        refused(PromisesTest::oneFallen, "product: the one fallen", y -> y.product(0, 1), STATE);
        refused(() -> twoOf(2, 3), "turned: not even", y -> y.turned(0), STATE);
        refused(() -> twoOf(13, 13), "turned: too wide", y -> y.turned(0), STATE);
        refused(() -> twoOf(16, 16), "turned: widest", y -> y.turned(0), STATE);
        refused(PromisesTest::fullScene, "turned: state ahead of room", y -> y.turned(1), STATE);
        refused(PromisesTest::fullScene, "turned: room", y -> y.turned(15), ROOM);
        refused(PromisesTest::fullScene, "turned: unknown ahead of room", y -> y.turned(16), UNKNOWN);
    }

    private static NestTables twoOf(int first, int second) {
        NestTables x = new NestTables();
        with(x, NUMBERS, first, second);
        return x;
    }

    private static NestTables oneFallen() {
        NestTables x = new NestTables();
        with(x, NUMBERS, -1);
        with(x, NUMBERS);
        return x;
    }

    private static void widestTurned() {
        NestTables x = new NestTables();
        int t = with(x, NUMBERS, 12, 12, 12, 12, 12, 12, 12, 12, 12, 12, 12, 12);
        x.put(t, 11, 0, 5);
        due("turned widest", x.turned(t), 1);
        due("turned widest: cell", x.get(1, 0, 11), 5);
    }

    private static void promise13Product() {
        NestTables x = new NestTables();
        int a = filled(x, NUMBERS, new int[] {1, 2, 3}, new int[] {4, 5, 6});
        int b = filled(x, NUMBERS, new int[] {1, 0}, new int[] {0, 1}, new int[] {2, MOST});
        due("product", x.product(a, b), 2);
        holds("product", x, 2, NUMBERS, new int[] {7, 2 + 3 * MOST}, new int[] {16, 5 + 6 * MOST});
        int bits = filled(x, BITS, new int[] {1, 1}, new int[] {0, 1});
        holds("product of bits", x, x.product(bits, bits), BITS, new int[] {1, 1}, new int[] {0, 1});
        int none = filled(x, BITS, new int[] {1, 0}, new int[] {1, 0});
        int low = filled(x, BITS, new int[] {0}, new int[] {1});
        holds("product of bits that never meet", x, x.product(none, low), BITS, new int[] {0}, new int[] {0});
        int noCells = with(x, NUMBERS, 0, 0);
        int noPlaces = with(x, NUMBERS);
        holds("product over nothing", x, x.product(noCells, noPlaces), NUMBERS, new int[0], new int[0]);
        holds("product of nothing", x, x.product(noPlaces, noPlaces), NUMBERS);
        due("product that does not fit", x.product(noPlaces, noCells), STATE);
        due("product: no fails", x.count(3), 0);
        widestProduct();
        refused(PromisesTest::scene, "product: unknown", y -> y.product(4, 1), UNKNOWN);
        refused(PromisesTest::scene, "product: unknown other", y -> y.product(1, -1), UNKNOWN);
        refused(PromisesTest::scene, "product: fallen", y -> y.product(1, 1), STATE);
        refused(() -> twoOf(2, 3), "product: not even", y -> y.product(0, 0), STATE);
        refused(() -> twoOf(3, 3), "product: does not fit", y -> y.product(0, 0), STATE);
        refused(() -> squares(LINKS, LINKS), "product: links", y -> y.product(0, 1), STATE);
        refused(() -> squares(BITS, NUMBERS), "product: unlike", y -> y.product(0, 1), STATE);
        refused(() -> squares(REALS, NUMBERS), "product: unlike reals", y -> y.product(0, 1), STATE);
        refused(() -> secondNotEven(-1), "product: second fallen", y -> y.product(0, 1), STATE);
        refused(() -> secondNotEven(3), "product: second not even", y -> y.product(0, 1), STATE);
        refused(PromisesTest::fullScene, "product: state ahead of room", y -> y.product(1, 1), STATE);
        refused(PromisesTest::fullScene, "product: room", y -> y.product(15, 15), ROOM);
    }

    private static NestTables squares(int kind, int other) {
        NestTables x = new NestTables();
        with(x, kind, 1);
        with(x, other, 1);
        return x;
    }

    private static NestTables secondNotEven(int length) {
        NestTables x = new NestTables();
        with(x, NUMBERS, 2);
        with(x, NUMBERS, 2, length);
        return x;
    }

    private static void widestProduct() {
        NestTables x = new NestTables();
        int tall = with(x, NUMBERS, 1, 1, 1, 1, 1, 1, 1, 1, 1, 1, 1, 1);
        int wide = with(x, NUMBERS, 16);
        x.put(tall, 11, 0, 3);
        x.put(wide, 0, 15, -4);
        due("product widest", x.product(tall, wide), 2);
        due("product widest: cell", x.get(2, 11, 15), -12);
        due("product widest: places", x.told(2, 0, 1), 12);
        due("product widest: cells", x.told(2, 11, 2), 16);
    }

    private static void promise13ProductOfReals() {
        NestTables x = new NestTables();
        int a = filled(x, REALS, new int[] {100, 200, 300});
        int b = filled(x, REALS, new int[] {700}, new int[] {1100}, new int[] {1300});
        due("product of reals", x.real(x.product(a, b), 0, 0), 0.0 + 0.1 * 0.7 + 0.2 * 1.1 + 0.3 * 1.3);
        due("product of reals over nothing", x.real(x.product(with(x, REALS, 0), with(x, REALS)), 0, 0), 0.0);
        NestTables y = new NestTables();
        int power = filled(y, REALS, new int[] {MOST, 0}, new int[] {0, LEAST});
        for (int k = 0; k < 7; k++) {
            power = y.product(power, power);
        }
        due("endless times 0 is no number", y.real(power, 0, 1), 0.0);
        due("no number, cut", y.get(power, 0, 1), 0);
        due("endless beside no number", y.real(power, 1, 1), Double.POSITIVE_INFINITY);
        due("no number is not alike", y.alike(power, power), 0);
        endlessReals(new NestTables());
        noNumberGoesOn();
    }

    private static void endlessReals(NestTables y) {
        int one = filled(y, REALS, new int[] {MOST});
        int minus = filled(y, REALS, new int[] {-1000});
        for (int k = 0; k < 6; k++) {
            one = y.product(one, one);
        }
        due("endless", y.real(one, 0, 0), Double.POSITIVE_INFINITY);
        due("endless, cut", y.get(one, 0, 0), MOST);
        due("endless is alike", y.alike(one, one), 1);
        int below = y.product(one, minus);
        due("endless below", y.real(below, 0, 0), Double.NEGATIVE_INFINITY);
        due("endless below, cut", y.get(below, 0, 0), LEAST);
    }

    /** No number comes along with copies and turns, stays no number in products, and ends with put. */
    private static void noNumberGoesOn() {
        NestTables x = new NestTables();
        int endless = filled(x, REALS, new int[] {MOST});
        for (int k = 0; k < 6; k++) {
            endless = x.product(endless, endless);
        }
        int zero = with(x, REALS, 1);
        int none = x.product(endless, zero);
        due("endless times 0", x.alike(none, none), 0);
        due("endless times 0, real", x.real(none, 0, 0), 0.0);
        int turned = x.product(zero, endless);
        due("0 times endless", x.alike(turned, turned), 0);
        due("0 times endless, real", x.real(turned, 0, 0), 0.0);
        due("0 times endless, cut", x.get(turned, 0, 0), 0);
        turned = x.turned(none);
        due("turned no number", x.alike(turned, turned), 0);
        int times = x.product(none, zero);
        due("no number times 0", x.alike(times, times), 0);
        x.copy(none, 0, 0, zero, 0, 0, 1);
        due("copied no number", x.alike(zero, zero), 0);
        due("no number, total", x.total(zero), 0);
        x.put(zero, 0, 0, 2000);
        due("put over no number", x.alike(zero, zero), 1);
        due("put over no number, real", x.real(zero, 0, 0), 2.0);
        int pair = with(x, REALS, 2);
        x.copy(endless, 0, 0, pair, 0, 0, 1);
        x.copy(endless, 0, 0, pair, 0, 1, 1);
        int signs = filled(x, REALS, new int[] {1000}, new int[] {-1000});
        int opposite = x.product(pair, signs);
        due("endless less endless", x.alike(opposite, opposite), 0);
        due("endless less endless, real", x.real(opposite, 0, 0), 0.0);
        x.put(signs, 1, 0, 1000);
        due("endless and endless", x.real(x.product(pair, signs), 0, 0), Double.POSITIVE_INFINITY);
        due("no number, sixteen tables at most", x.count(0), 16);
    }

    private static void promise14Distances() {
        NestTables x = new NestTables();
        int ways = filled(x, BITS, new int[] {0, 1, 0, 0}, new int[] {0, 0, 1, 0}, new int[] {1, 0, 1, 0}, new int[] {1, 0, 0, 1});
        due("distances", x.distances(ways), 1);
        holds("distances", x, 1, NUMBERS, new int[] {0, 1, 2, -1}, new int[] {2, 0, 1, -1}, new int[] {1, 2, 0, -1}, new int[] {1, 2, 3, 0});
        holds("distances without places", x, x.distances(with(x, BITS)), NUMBERS);
        int row = filled(x, BITS, new int[] {0, 0}, new int[] {0, 0});
        x.share(row, 1, row, 0);
        x.put(row, 0, 1, 1);
        holds("distances of a shared row", x, x.distances(row), NUMBERS, new int[] {0, 1}, new int[] {-1, 0});
        longestWay();
        refused(PromisesTest::scene, "distances: unknown", y -> y.distances(4), UNKNOWN);
        refused(PromisesTest::scene, "distances: fallen", y -> y.distances(0), STATE);
        refused(() -> squares(NUMBERS, LINKS), "distances: no bits", y -> y.distances(0), STATE);
        refused(() -> squares(NUMBERS, LINKS), "distances: links", y -> y.distances(1), STATE);
        refused(() -> rectangle(3, 3), "distances: even, but not square", y -> y.distances(0), STATE);
        refused(() -> rectangle(2, 1), "distances: ragged", y -> y.distances(0), STATE);
        refused(PromisesTest::fullScene, "distances: state ahead of room", y -> y.distances(1), STATE);
        refused(PromisesTest::fullScene, "distances: room", y -> y.distances(15), ROOM);
    }

    private static NestTables rectangle(int first, int second) {
        NestTables x = new NestTables();
        with(x, BITS, first, second);
        return x;
    }

    private static void longestWay() {
        NestTables x = new NestTables();
        int ring = with(x, BITS, 12, 12, 12, 12, 12, 12, 12, 12, 12, 12, 12, 12);
        for (int i = 0; i < 12; i++) {
            x.put(ring, i, (i + 5) % 12, 1);
        }
        int found = x.distances(ring);
        for (int steps = 0; steps < 12; steps++) {
            due("distances round a ring", x.get(found, 3, (3 + 5 * steps) % 12), steps);
        }
    }

    private static void promise15Pack() {
        NestTables x = new NestTables();
        int ragged = filled(x, BITS, new int[] {1, 0, 1}, new int[0], new int[] {0, 1, 1, 0, 1});
        due("pack", x.pack(ragged), 1);
        due("pack: word", x.word(0), 0b10110101);
        int full = with(x, BITS, 16, 16, 16, 16, 16, 16, 16, 16, 16, 16, 16, 16);
        x.put(full, 1, 15, 1);
        x.put(full, 2, 0, 1);
        x.put(full, 11, 15, 1);
        due("pack all", x.pack(full), 6);
        int[] words = {LEAST, 1, 0, 0, 0, LEAST, NONE};
        for (int i = 0; i < words.length; i++) {
            due("pack all: word " + i, x.word(i), words[i]);
        }
        due("pack 33", x.pack(with(x, BITS, 16, 1, 16)), 2);
        due("pack 33: word 1 is filled", x.word(1), 0);
        due("pack 32", x.pack(with(x, BITS, 16, 16)), 1);
        due("pack 32: word 1", x.word(1), NONE);
        refused(PromisesTest::packedScene, "pack: unknown", y -> y.pack(5), UNKNOWN);
        for (int kind = NUMBERS; kind <= LINKS; kind++) {
            int other = kind;
            refused(PromisesTest::packedScene, "pack: no bits, ahead of null", y -> y.pack(other), STATE);
        }
        refused(PromisesTest::packedScene, "pack: null", y -> y.pack(0), NULL);
    }

    private static NestTables packedScene() {
        NestTables x = scene();
        x.pack(filled(x, BITS, new int[] {1, 0, 1}));
        return x;
    }

    private static void promise16Word() {
        NestTables x = packedScene();
        due("word", x.word(0), 5);
        x.put(4, 0, 1, 1);
        due("word: as it was packed", x.word(0), 5);
        for (int i : new int[] {-1, 1, 6, MOST, LEAST}) {
            due("word that there is not", x.word(i), NONE);
        }
        due("word: no fails", x.count(3), 0);
        x.pack(4);
        due("word: packed anew", x.word(0), 7);
        due("pack nothing", x.pack(with(x, BITS)), 0);
        due("word: of nothing", x.word(0), NONE);
    }

    private static void promise17Alike() {
        NestTables x = scene();
        for (int t = 0; t < 4; t++) {
            due("alike itself", x.alike(t, t), 1);
        }
        due("alike: kinds", x.alike(with(x, BITS, 1), with(x, NUMBERS, 1)), 0);
        int numbers = filled(x, NUMBERS, new int[] {0, 5, 0}, new int[] {0, 0});
        due("alike: places", x.alike(NUMBERS, numbers), 0);
        int again = with(x, NUMBERS, 3, 2, -1);
        due("alike: cells", x.alike(NUMBERS, again), 0);
        x.put(again, 0, 1, 5);
        due("alike: same cells", x.alike(NUMBERS, again), 1);
        x.row(again, 1, 3);
        due("alike: lengths", x.alike(NUMBERS, again), 0);
        x.row(again, 1, 2);
        x.row(again, 2, 0);
        due("alike: fallen and without cells", x.alike(NUMBERS, again), 0);
        due("alike: the other way", x.alike(again, NUMBERS), 0);
        int reals = filled(x, REALS, new int[] {1}, new int[] {2});
        int unlike = filled(x, REALS, new int[] {1}, new int[] {3});
        due("alike: reals that cut alike", x.alike(reals, unlike), 0);
        x.put(unlike, 1, 0, 2);
        due("alike: reals", x.alike(reals, unlike), 1);
        int links = filled(x, LINKS, new int[] {1, NONE});
        int others = filled(x, LINKS, new int[] {2, NONE});
        due("alike: links to another", x.alike(links, others), 0);
        x.put(others, 0, 0, 1);
        due("alike: links", x.alike(links, others), 1);
        int most = with(x, BITS, 1, 1, 1, 1, 1, 1, 1, 1, 1, 1, 1, 1);
        due("alike: twelve places", x.alike(most, most), 1);
        due("alike: no places", x.alike(with(x, BITS), with(x, BITS)), 1);
        due("alike: no fails", x.count(3), 0);
        refused(PromisesTest::scene, "alike: unknown", y -> y.alike(4, 0), UNKNOWN);
        refused(PromisesTest::scene, "alike: unknown other", y -> y.alike(0, -1), UNKNOWN);
    }

    private static void promise18Same() {
        NestTables x = scene();
        due("same", x.same(1, 0, 1, 0), 1);
        due("same: alike is not same", x.same(with(x, NUMBERS, 1), 0, with(x, NUMBERS, 1), 0), 0);
        x.share(4, 0, 1, 0);
        due("same: shared", x.same(4, 0, 1, 0), 1);
        due("same: shared, the other way", x.same(1, 0, 4, 0), 1);
        due("same: fallen", x.same(1, 0, 1, 2), 0);
        due("same: fallen first", x.same(1, 2, 1, 0), 0);
        due("same: both fallen", x.same(1, 2, 1, 2), 0);
        due("same: kinds", x.same(0, 0, 1, 0), 0);
        due("same: no fails", x.count(3), 0);
        refused(PromisesTest::scene, "same: unknown", y -> y.same(4, 9, 0, 0), UNKNOWN);
        refused(PromisesTest::scene, "same: unknown other", y -> y.same(0, 0, 4, 9), UNKNOWN);
        refused(PromisesTest::scene, "same: index", y -> y.same(0, 3, 0, 0), INDEX);
        refused(PromisesTest::scene, "same: index below", y -> y.same(0, -1, 0, 2), INDEX);
        refused(PromisesTest::scene, "same: index other", y -> y.same(0, 2, 0, 3), INDEX);
        refused(PromisesTest::scene, "same: index other below", y -> y.same(0, 2, 0, LEAST), INDEX);
    }

    private static void promise19Total() {
        NestTables x = new NestTables();
        int bits = filled(x, BITS, new int[] {1, 0, 1}, new int[] {1});
        due("total of bits", x.total(bits), 3);
        int numbers = filled(x, NUMBERS, new int[] {MOST, 1}, new int[] {5});
        due("total wraps", x.total(numbers), LEAST + 5);
        int reals = filled(x, REALS, new int[] {1900, 1900, -1900});
        due("total of reals, each cut", x.total(reals), 1);
        due("total without places", x.total(with(x, LINKS)), 0);
        int links = filled(x, LINKS, new int[] {bits, NONE, reals}, new int[] {bits});
        due("total through links", x.total(links), 7);
        int over = filled(x, LINKS, new int[] {links, links});
        x.share(bits, 1, bits, 0);
        due("total of a shared row, twice", x.total(bits), 4);
        due("total through links of links", x.total(over), 18);
        due("total: no fails", x.count(3), 0);
        refused(PromisesTest::scene, "total: unknown", y -> y.total(4), UNKNOWN);
        refused(PromisesTest::scene, "total: unknown below", y -> y.total(-1), UNKNOWN);
        refused(PromisesTest::scene, "total: null", y -> y.total(1), NULL);
        refused(PromisesTest::scene, "total: null where linked", y -> y.total(3), NULL);
        refused(PromisesTest::ringScene, "total: ring", y -> y.total(0), RING);
        refused(PromisesTest::ringScene, "total: ring from outside it", y -> y.total(2), RING);
        refused(() -> spentScene(1000), "total: spent", y -> y.total(0), SPENT);
        highReals();
    }

    private static void highReals() {
        NestTables x = new NestTables();
        int big = filled(x, REALS, new int[] {MOST});
        int high = x.product(big, big);
        int pair = with(x, REALS, 2);
        x.copy(high, 0, 0, pair, 0, 0, 1);
        x.copy(high, 0, 0, pair, 0, 1, 1);
        due("total of reals beyond 32 bits, each cut, wrapping", x.total(pair), MOST + MOST);
    }

    /** Tables 0 and 1 link to one another, 2 links to 0. */
    private static NestTables ringScene() {
        NestTables x = new NestTables();
        filled(x, LINKS, new int[] {NONE});
        filled(x, LINKS, new int[] {0});
        filled(x, LINKS, new int[] {0});
        x.put(0, 0, 0, 1);
        return x;
    }

    /** From table 0 a total enters itself and as many tables as are asked for, below 3000. */
    private static NestTables spentScene(int below) {
        NestTables x = new NestTables();
        x.table(LINKS, 12);
        int hub = with(x, LINKS, 15);
        int leaf = filled(x, NUMBERS, new int[] {1});
        x.put(hub, 0, 0, leaf);
        for (int j = 1; j < 15; j++) {
            x.copy(hub, 0, 0, hub, 0, j, 1);
        }
        int hubs = below / 16;
        int at = 0;
        for (int i = 0; i < 12; i++) {
            x.row(0, i, 16);
            for (int j = 0; j < 16 && at < hubs + below % 16; j++) {
                x.put(0, i, j, at < hubs ? hub : leaf);
                at++;
            }
        }
        return x;
    }

    /** Place by place, cell by cell: the first that is met is answered, and what comes behind it is not looked at. */
    private static void promise19WhatComesFirst() {
        NestTables x = new NestTables();
        int ringFirst = with(x, LINKS, 1, -1);
        x.put(ringFirst, 0, 0, ringFirst);
        due("a ring ahead of a fallen place", x.total(ringFirst), RING);
        int nullFirst = with(x, LINKS, -1, 1);
        x.put(nullFirst, 1, 0, nullFirst);
        due("a fallen place ahead of a ring", x.total(nullFirst), NULL);
        int broken = with(x, NUMBERS, 1, -1);
        int both = with(x, LINKS, 3);
        x.put(both, 0, 1, broken);
        x.put(both, 0, 2, both);
        due("a fallen place linked ahead of a ring", x.total(both), NULL);
        x.put(both, 0, 0, both);
        due("a ring ahead of a fallen place linked", x.total(both), RING);
        due("a ring ahead: entered", x.entered(), 1);

        NestTables y = spentScene(999);
        y.row(0, 11, 1);
        due("exactly 1000", y.total(0), 62 * 15 + 7);
        due("exactly 1000: entered", y.entered(), 1000);
        y.fall(0, 11);
        due("a fallen place behind 1000", y.total(0), NULL);
        y.row(0, 11, 1);
        y.put(0, 11, 0, 0);
        due("a ring behind 1000", y.total(0), RING);
        due("a ring behind 1000: entered", y.entered(), 1000);
        y.put(0, 11, 0, with(y, NUMBERS, -1));
        due("spent ahead of what is fallen there", y.total(0), SPENT);
        due("spent: entered", y.entered(), 1000);
        y.fall(2, 0);
        due("a fallen leaf ahead of spent", y.total(0), NULL);
        due("a fallen leaf: entered", y.entered(), 3);
        y.row(2, 0, 0);
        y.put(0, 11, 0, NONE);
        due("no mark is left", y.total(0), 0);
    }

    private static void promise20Entered() {
        NestTables x = scene();
        due("entered at first", x.entered(), 0);
        x.total(LINKS);
        due("entered, with the one that failed", x.entered(), 2);
        x.total(4);
        due("entered, behind an unknown table", x.entered(), 2);
        x.total(with(x, BITS));
        due("entered one", x.entered(), 1);
        int leaf = with(x, REALS, 1);
        int links = filled(x, LINKS, new int[] {leaf, NONE, leaf}, new int[] {leaf});
        x.total(filled(x, LINKS, new int[] {links, leaf, links}));
        due("entered, each as often as it was", x.entered(), 1 + 4 + 1 + 4);
        x.deep(links);
        due("entered, behind deep", x.entered(), 10);
        NestTables y = ringScene();
        y.total(2);
        due("entered in a ring", y.entered(), 3);
        NestTables z = spentScene(1000);
        z.total(0);
        due("entered till spent", z.entered(), 1000);
        due("entered, asked again", z.entered(), 1000);
    }

    private static void promise21Deep() {
        NestTables x = scene();
        for (int t = 0; t < LINKS; t++) {
            due("deep of other kinds", x.deep(t), 0);
        }
        due("deep to numbers", x.deep(LINKS), 1);
        due("deep without places", x.deep(with(x, LINKS)), 1);
        due("deep without links", x.deep(with(x, LINKS, 2, -1)), 1);
        int two = filled(x, LINKS, new int[] {NONE, 1}, new int[] {LINKS});
        due("deep: two", x.deep(two), 2);
        int three = filled(x, LINKS, new int[] {two, 1}, new int[] {LINKS, NONE});
        due("deep: three", x.deep(three), 3);
        int twice = filled(x, LINKS, new int[] {two, three, two, 1});
        due("deep: what was found before counts again", x.deep(twice), 4);
        x.fall(three, 0);
        due("deep: fallen places are left out", x.deep(three), 2);
        due("deep: no fails", x.count(3), 0);
        refused(PromisesTest::scene, "deep: unknown", y -> y.deep(4), UNKNOWN);
        refused(PromisesTest::ringScene, "deep: ring", y -> y.deep(0), RING);
        refused(PromisesTest::ringScene, "deep: ring from outside it", y -> y.deep(2), RING);
        NestTables r = ringScene();
        due("deep: a ring", r.deep(2), RING);
        r.put(1, 0, 0, NONE);
        due("deep: no mark is left", r.deep(2), 3);
        deepestChain();
    }

    /** Sixteen tables, each with 192 links to the next: too many ways to go each of them. */
    private static void deepestChain() {
        NestTables x = new NestTables();
        for (int t = 0; t < 16; t++) {
            x.table(LINKS, 12);
            x.row(t, 0, 16);
        }
        for (int t = 0; t < 15; t++) {
            x.put(t, 0, 0, t + 1);
            for (int cells = 1; cells < 16; cells *= 2) {
                x.copy(t, 0, 0, t, 0, cells, cells);
            }
            for (int i = 1; i < 12; i++) {
                x.share(t, i, t, 0);
            }
        }
        due("deep: sixteen", x.deep(0), 16);
        due("deep: one", x.deep(15), 1);
        x.put(15, 0, 0, 8);
        due("deep: a ring at the end", x.deep(0), RING);
        due("deep: a ring in a chain", x.deep(12), RING);
        x.put(15, 0, 0, NONE);
        due("deep: sixteen again", x.deep(0), 16);
        due("total: sixteen deep", x.total(0), NULL);
        due("total: sixteen deep, entered", x.entered(), 16);
        for (int i = 1; i < 12; i++) {
            x.share(15, i, 15, 0);
        }
        due("total: sixteen deep, spent", x.total(0), SPENT);
        due("total: sixteen deep, spent, entered", x.entered(), 1000);
    }

    private static void promise22Count() {
        NestTables x = scene();
        due("count: tables", x.count(0), 4);
        due("count: rows", x.count(1), 8);
        due("count: fallen", x.count(2), 4);
        due("count: failed", x.count(3), 0);
        x.share(0, 2, 0, 0);
        x.share(0, 1, 0, 0);
        due("count: each row once", x.count(1), 7);
        due("count: each row once, asked again", x.count(1), 7);
        due("count: fallen, less", x.count(2), 3);
        x.table(BITS, 1);
        x.share(4, 0, 0, 0);
        due("count: each row once, in several tables", x.count(1), 7);
        x.fall(0, 0);
        due("count: a row that still stands", x.count(1), 7);
        x.fall(0, 1);
        x.fall(0, 2);
        x.fall(4, 0);
        due("count: a row that stands no more", x.count(1), 6);
        due("count: fallen, more", x.count(2), 7);
        x.get(0, 0, 0);
        x.get(9, 0, 0);
        x.table(0, 13);
        x.turned(0);
        due("count: refused is not failed", x.count(3), 1);
        x.total(3);
        x.real(0, 9, 9);
        due("count: failed", x.count(3), 2);
        refused(PromisesTest::scene, "count: outside", y -> y.count(4), OUTSIDE);
        refused(PromisesTest::scene, "count: outside below", y -> y.count(-1), OUTSIDE);
        refused(PromisesTest::scene, "count: outside least", y -> y.count(LEAST), OUTSIDE);
    }

    private static void promise23Clear() {
        NestTables x = packedScene();
        x.total(3);
        due("clear", x.clear(), 5);
        due("clear again", x.clear(), 0);
        for (int what = 0; what < 4; what++) {
            due("clear: count(" + what + ")", x.count(what), 0);
        }
        due("clear: entered", x.entered(), 0);
        due("clear: word", x.word(0), NONE);
        due("clear: no table", x.told(0, 0, 0), UNKNOWN);
        due("clear: numbers from 0 on", x.table(NUMBERS, 12), 0);
        due("clear: all fallen", x.count(2), 12);
        x.row(0, 0, 3);
        due("clear: new cells", x.get(0, 0, 1), 0);
        NestTables y = fullScene();
        y.clear();
        due("clear: there is room", y.table(LINKS, 1), 0);
        y.row(0, 0, 1);
        due("clear: no link to what was", y.put(0, 0, 0, 1), UNKNOWN);
    }
}
