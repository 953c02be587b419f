import java.util.ArrayList;
import java.util.List;
import java.util.function.Supplier;
import java.util.function.ToIntFunction;

/** What the tests of the sentences share: the document's numbers, tables made quickly, and what is due. */
abstract class Checks {
    // Written out, and not taken from the class, so that a wrong constant is seen.
    static final int UNKNOWN = -1000001, OUTSIDE = -1000002, STATE = -1000003, ROOM = -1000004, NONE = -1000009;
    static final int NULL = -1000011, INDEX = -1000012, STORE = -1000013, SIZE = -1000014, RING = -1000015, SPENT = -1000016;
    static final int BITS = 0, NUMBERS = 1, REALS = 2, LINKS = 3;
    static final int LEAST = Integer.MIN_VALUE, MOST = Integer.MAX_VALUE;
    static final int FALLEN = -1;

    private static int wrong = 0;
    private static String sentence = "";

    static int wrongAnswers() {
        return wrong;
    }

    /** What is wrong from now on is told together with this sentence. */
    static void nowTesting(String words) {
        sentence = words;
    }

    static void isWrong(String what) {
        wrong++;
        System.out.println(sentence + "\n    " + what);
    }

    static void due(String what, long got, long want) {
        if (got != want) {
            isWrong(what + " answered " + got + ", due is " + want);
        }
    }

    /** By compare, so that -0.0 is not taken for 0.0. */
    static void dueReal(String what, double got, double want) {
        if (Double.compare(got, want) != 0) {
            isWrong(what + " answered " + got + ", due is " + want);
        }
    }

    /** The call answers its code, and nothing changes but that count(3) grows by one if it failed. */
    static void refused(String what, Supplier<NestTables> scene, ToIntFunction<NestTables> call, int want) {
        NestTables untouched = scene.get();
        NestTables called = scene.get();
        due(what, call.applyAsInt(called), want);
        due(what + ", then entered()", called.entered(), untouched.entered());
        unchangedBut(what, untouched, called, want <= NULL ? 1 : 0);
    }

    /** As refused, but entered() tells what this total came to, and each total behind it finds what it would have found. */
    static void totalFails(String what, Supplier<NestTables> scene, int table, int want, int entered) {
        NestTables untouched = scene.get();
        NestTables called = scene.get();
        due(what, called.total(table), want);
        due(what + ", then entered()", called.entered(), entered);
        unchangedBut(what, untouched, called, want <= NULL ? 1 : 0);
        for (int t = 0; t < untouched.count(0); t++) {
            due(what + ", then total(" + t + ")", called.total(t), untouched.total(t));
            due(what + ", then total(" + t + ") and entered()", called.entered(), untouched.entered());
        }
    }

    /** Both show the same, but that so many more calls have failed. */
    static void unchangedBut(String what, NestTables untouched, NestTables called, int failed) {
        due(what + ", then count(3)", called.count(3), untouched.count(3) + failed);
        String before = picture(untouched);
        String after = picture(called);
        if (!before.equals(after)) {
            isWrong(what + " changed\n" + before + "to\n" + after);
        }
    }

    /** All that can be asked without a call that fails, but for entered() and count(3); few calls, since 512 are all. */
    private static String picture(NestTables x) {
        StringBuilder text = new StringBuilder();
        int tables = x.count(0);
        text.append(tables).append(" tables, ").append(x.count(1)).append(" rows, ").append(x.count(2)).append(" fallen, words");
        for (int i = 0; i < 7; i++) {
            text.append(' ').append(x.word(i));
        }
        List<int[]> rows = new ArrayList<>();
        for (int t = 0; t < tables; t++) {
            int kind = x.told(t, 0, 0);
            int high = x.told(t, 0, 1);
            text.append("\n").append(t).append(" of kind ").append(kind).append(':');
            for (int i = 0; i < high; i++) {
                text.append(' ').append(placePicture(x, kind, t, i, rows));
            }
            // only a real that is no number keeps a table from being alike itself
            text.append(kind == REALS ? " alike " + x.alike(t, t) : "");
        }
        return text.append("\n").toString();
    }

    /** A row that was met before is told by the place where it was: so two pictures differ if one row stands elsewhere. */
    private static String placePicture(NestTables x, int kind, int t, int i, List<int[]> rows) {
        if (x.same(t, i, t, i) == 0) {
            return "-";
        }
        for (int[] row : rows) {
            if (row[0] == kind && x.same(t, i, row[1], row[2]) == 1) {
                return "as " + row[1] + "/" + row[2];
            }
        }
        rows.add(new int[] {kind, t, i});
        StringBuilder text = new StringBuilder("(");
        int wide = x.told(t, i, 2);
        for (int j = 0; j < wide; j++) {
            text.append(j == 0 ? "" : " ").append(kind == REALS ? String.valueOf(x.real(t, i, j)) : String.valueOf(x.get(t, i, j)));
        }
        return text.append(')').toString();
    }

    /** A table with rows of the lengths given. */
    static int with(NestTables x, int kind, int... lengths) {
        int t = x.table(kind, lengths.length);
        for (int i = 0; i < lengths.length; i++) {
            if (lengths[i] != FALLEN) {
                x.row(t, i, lengths[i]);
            }
        }
        return t;
    }

    /** A table with high places that share one row: few calls, and even. */
    static int evenOfOneRow(NestTables x, int kind, int high, int wide) {
        int t = x.table(kind, high);
        x.row(t, 0, wide);
        for (int i = 1; i < high; i++) {
            x.share(t, i, t, 0);
        }
        return t;
    }

    static int filled(NestTables x, int kind, int[]... values) {
        int t = x.table(kind, values.length);
        for (int i = 0; i < values.length; i++) {
            x.row(t, i, values[i].length);
            for (int j = 0; j < values[i].length; j++) {
                x.put(t, i, j, values[i][j]);
            }
        }
        return t;
    }

    static int[] cells(int... values) {
        return values;
    }

    /** The table is of this kind and has just these rows (of reals: these numbers when cut). */
    static void holds(String what, NestTables x, int t, int kind, int[]... values) {
        due(what + ": kind", x.told(t, 0, 0), kind);
        due(what + ": places", x.told(t, 0, 1), values.length);
        for (int i = 0; i < values.length; i++) {
            due(what + ": length of " + i, x.told(t, i, 2), values[i].length);
            for (int j = 0; j < values[i].length; j++) {
                due(what + ": cell " + j + " at place " + i, x.get(t, i, j), values[i][j]);
            }
        }
    }

    /** The number of the first table that there is not in inUse(). */
    static final int IN_USE = 5;

    /**
     * Tables 0 to 3, one of each kind, each with a row of three cells, one of two and a place that is fallen; at the one
     * place of table 4 stands the first row of table 1. Bits are packed, a call has failed, a total has entered two.
     */
    static NestTables inUse() {
        NestTables x = new NestTables();
        filled(x, BITS, cells(1, 0, 1), cells(0, 1), cells());
        x.pack(BITS);
        x.fall(BITS, 2);
        filled(x, NUMBERS, cells(7, -8, 9), cells(10, 11), cells());
        x.fall(NUMBERS, 2);
        filled(x, REALS, cells(1500, -2500, 250), cells(-1, 999), cells());
        x.fall(REALS, 2);
        filled(x, LINKS, cells(0, NONE, 2), cells(1, NONE), cells());
        x.fall(LINKS, 2);
        x.table(NUMBERS, 1);
        x.share(4, 0, NUMBERS, 0);
        x.total(LINKS);
        return x;
    }

    /** inUse(), squares of each kind (5 to 8: bits, numbers, reals, links), and tables without places up to 14. */
    static NestTables almostFull() {
        NestTables x = inUse();
        filled(x, BITS, cells(1, 0), cells(1, 1));
        filled(x, NUMBERS, cells(1, 2), cells(3, 4));
        filled(x, REALS, cells(1000, 2000), cells(3000, 4000));
        filled(x, LINKS, cells(NONE, 1), cells(0, NONE));
        for (int t = 9; t < 15; t++) {
            x.table(BITS, 0);
        }
        return x;
    }

    /** almostFull(), and a sixteenth table. */
    static NestTables full() {
        NestTables x = almostFull();
        x.table(BITS, 0);
        return x;
    }

    /** Numbers that no table of inUse() has: those beside the bounds, and the farthest. */
    static int[] unknownInUse() {
        return cells(-1, IN_USE, 15, 16, NONE, LEAST, MOST);
    }

    /** Of a table with so many places (or a row with so many cells) those beside the bounds, and the farthest. */
    static int[] beyond(int high) {
        return cells(-1, high, high + 1, LEAST, MOST);
    }

    /** The number of a table with one real that is without end; takes seven tables. */
    static int endless(NestTables x) {
        int power = filled(x, REALS, cells(MOST));
        for (int k = 0; k < 6; k++) {
            power = x.product(power, power);
        }
        return power;
    }

    /** The number of a table with the greatest double at place 0, and the least at place 1; takes fifteen tables. */
    static int greatestAndLeast(NestTables x) {
        // (2^53 - 1) * 2^971: the first is 6361 * 69431 * (10000 * 2039 + 4401), the other (2^15)^64 * 2^11, each step exact
        int signs = filled(x, REALS, cells(6361000), cells(-6361000));
        int factor = filled(x, REALS, cells(69431000));
        int begun = x.product(signs, factor);
        int sum = x.product(filled(x, REALS, cells(10000000, 1000)), filled(x, REALS, cells(2039000), cells(4401000)));
        int allOnes = x.product(begun, sum);
        x.put(factor, 0, 0, 32768000);
        int power = factor;
        for (int k = 0; k < 6; k++) {
            power = x.product(power, power);
        }
        x.put(factor, 0, 0, 2048000);
        return x.product(allOnes, x.product(power, factor));
    }

    /** The number of a table with one real that is no number; takes nine tables. */
    static int noNumber(NestTables x) {
        return x.product(endless(x), with(x, REALS, 1));
    }
}
