import java.util.Arrays;

/** Tables of rows of bits, whole numbers, reals and links; what each call answers stands in the document. */
public final class NestTables {
    public static final int UNKNOWN = -1000001, OUTSIDE = -1000002, STATE = -1000003, ROOM = -1000004, NONE = -1000009;

    private static final int BITS = 0, NUMBERS = 1, REALS = 2, LINKS = 3;
    private static final int FAILED = -1000010;
    private static final int NO_CAUSE = 0, NULL = 1, INDEX = 2, STORE = 3, SIZE = 4, RING = 5, SPENT = 6;
    private static final int MOST_TABLES = 16, MOST_PLACES = 12, MOST_CELLS = 16;
    private static final int WORD_BITS = 32, MOST_WORDS = MOST_PLACES * MOST_CELLS / WORD_BITS;
    private static final int MOST_ENTERED = 1000;
    private static final int NOT_ASKED = -2, BEING_FOUND = -1;
    private static final int NO_WAY = -1;

    private final Table[] tables;
    private int tableCount;
    private int failures;
    private final int[] words;
    private int wordCount;
    private final boolean[] open;
    private int enteredCount;
    private int totalCause;
    private final int[] depths;
    private int countings;

    public NestTables() {
        tables = new Table[MOST_TABLES];
        for (int t = 0; t < MOST_TABLES; t++) {
            tables[t] = new Table();
        }
        words = new int[MOST_WORDS];
        open = new boolean[MOST_TABLES];
        depths = new int[MOST_TABLES];
    }

    public int table(int kind, int n) {
        if (kind < BITS || kind > LINKS || n > MOST_PLACES) {
            return OUTSIDE;
        }
        if (isFull()) {
            return ROOM;
        }
        if (n < 0) {
            return failed(SIZE);
        }
        return begun(kind, n);
    }

    public int row(int table, int i, int cells) {
        if (isUnknown(table)) {
            return UNKNOWN;
        }
        if (cells > MOST_CELLS) {
            return OUTSIDE;
        }
        if (cells < 0) {
            return failed(SIZE);
        }
        Table t = tables[table];
        if (!t.hasPlace(i)) {
            return failed(INDEX);
        }
        t.rows[i] = new Row(t.kind, cells);
        return 1;
    }

    public int share(int table, int i, int other, int j) {
        if (isUnknown(table) || isUnknown(other)) {
            return UNKNOWN;
        }
        Table to = tables[table];
        Table from = tables[other];
        if (!from.hasPlace(j) || !to.hasPlace(i)) {
            return failed(INDEX);
        }
        if (from.rows[j] == null) {
            return failed(NULL);
        }
        if (from.kind != to.kind) {
            return failed(STORE);
        }
        to.rows[i] = from.rows[j];
        return 1;
    }

    public int fall(int table, int i) {
        if (isUnknown(table)) {
            return UNKNOWN;
        }
        Table t = tables[table];
        if (!t.hasPlace(i)) {
            return failed(INDEX);
        }
        int stood = t.rows[i] != null ? 1 : 0;
        t.rows[i] = null;
        return stood;
    }

    public int put(int table, int i, int j, int v) {
        if (isUnknown(table)) {
            return UNKNOWN;
        }
        Table t = tables[table];
        if (t.kind == LINKS && v != NONE && isUnknown(v)) {
            return UNKNOWN;
        }
        int cause = t.cellCause(i, j);
        if (cause != NO_CAUSE) {
            return failed(cause);
        }
        t.rows[i].write(j, v);
        return 1;
    }

    public int get(int table, int i, int j) {
        if (isUnknown(table)) {
            return UNKNOWN;
        }
        Table t = tables[table];
        int cause = t.cellCause(i, j);
        if (cause != NO_CAUSE) {
            return failed(cause);
        }
        return t.rows[i].cut(j);
    }

    public double real(int table, int i, int j) {
        if (isUnknown(table)) {
            return 0.0;
        }
        Table t = tables[table];
        if (t.kind != REALS || t.cellCause(i, j) != NO_CAUSE) {
            return 0.0;
        }
        return t.rows[i].reals[j];
    }

    public int told(int table, int i, int what) {
        if (isUnknown(table)) {
            return UNKNOWN;
        }
        Table t = tables[table];
        switch (what) {
            case 0:
                return t.kind;
            case 1:
                return t.high;
            case 2:
                int cause = t.placeCause(i);
                return cause != NO_CAUSE ? failed(cause) : t.rows[i].length();
            default:
                return OUTSIDE;
        }
    }

    public int odd(int table) {
        return isUnknown(table) ? UNKNOWN : tables[table].firstNotSquare();
    }

    public int copy(int table, int i, int a, int other, int j, int b, int n) {
        if (isUnknown(table) || isUnknown(other)) {
            return UNKNOWN;
        }
        Table source = tables[table];
        Table target = tables[other];
        if (!source.hasPlace(i) || !target.hasPlace(j)) {
            return failed(INDEX);
        }
        Row from = source.rows[i];
        Row to = target.rows[j];
        if (from == null || to == null) {
            return failed(NULL);
        }
        if (source.kind != target.kind) {
            return failed(STORE);
        }
        if (!from.hasCells(a, n) || !to.hasCells(b, n)) {
            return failed(INDEX);
        }
        to.takeCells(b, from, a, n);
        return 1;
    }

    public int turned(int table) {
        if (isUnknown(table)) {
            return UNKNOWN;
        }
        Table from = tables[table];
        if (!from.isEven() || from.wide() > MOST_PLACES) {
            return STATE;
        }
        if (isFull()) {
            return ROOM;
        }
        int number = begunWithRows(from.kind, from.wide(), from.high);
        Table to = tables[number];
        for (int x = 0; x < to.high; x++) {
            for (int y = 0; y < from.high; y++) {
                to.rows[x].takeCells(y, from.rows[y], x, 1);
            }
        }
        return number;
    }

    public int product(int table, int other) {
        if (isUnknown(table) || isUnknown(other)) {
            return UNKNOWN;
        }
        Table first = tables[table];
        Table second = tables[other];
        if (!canMultiply(first, second)) {
            return STATE;
        }
        if (isFull()) {
            return ROOM;
        }
        int number = begunWithRows(first.kind, first.high, second.wide());
        Table to = tables[number];
        for (int x = 0; x < to.high; x++) {
            for (int y = 0; y < to.rows[x].length(); y++) {
                multiply(to.rows[x], y, first.rows[x], second);
            }
        }
        return number;
    }

    public int distances(int table) {
        if (isUnknown(table)) {
            return UNKNOWN;
        }
        Table steps = tables[table];
        if (steps.kind != BITS || steps.firstNotSquare() != NONE) {
            return STATE;
        }
        if (isFull()) {
            return ROOM;
        }
        int number = begunWithRows(NUMBERS, steps.high, steps.high);
        Table to = tables[number];
        for (int x = 0; x < to.high; x++) {
            writeSteps(to.rows[x].whole, steps.rows[x].whole, x);
        }
        for (int k = 0; k < to.high; k++) {
            for (int x = 0; x < to.high; x++) {
                shortenThrough(k, to.rows[x].whole, to.rows[k].whole);
            }
        }
        return number;
    }

    public int pack(int table) {
        if (isUnknown(table)) {
            return UNKNOWN;
        }
        Table t = tables[table];
        if (t.kind != BITS) {
            return STATE;
        }
        if (t.fallenPlaces() > 0) {
            return failed(NULL);
        }
        Arrays.fill(words, 0);
        int bits = 0;
        for (int i = 0; i < t.high; i++) {
            packRow(t.rows[i].whole, bits);
            bits += t.rows[i].length();
        }
        wordCount = (bits + WORD_BITS - 1) / WORD_BITS;
        return wordCount;
    }

    public int word(int i) {
        return i >= 0 && i < wordCount ? words[i] : NONE;
    }

    public int alike(int table, int other) {
        if (isUnknown(table) || isUnknown(other)) {
            return UNKNOWN;
        }
        return tables[table].agreesWith(tables[other]) ? 1 : 0;
    }

    public int same(int table, int i, int other, int j) {
        if (isUnknown(table) || isUnknown(other)) {
            return UNKNOWN;
        }
        Table one = tables[table];
        Table two = tables[other];
        if (!one.hasPlace(i) || !two.hasPlace(j)) {
            return failed(INDEX);
        }
        return one.rows[i] != null && one.rows[i] == two.rows[j] ? 1 : 0;
    }

    public int total(int table) {
        if (isUnknown(table)) {
            return UNKNOWN;
        }
        enteredCount = 0;
        totalCause = NO_CAUSE;
        int sum = totalOfTable(table, 0);
        return totalCause != NO_CAUSE ? failed(totalCause) : sum;
    }

    public int entered() {
        return enteredCount;
    }

    public int deep(int table) {
        if (isUnknown(table)) {
            return UNKNOWN;
        }
        Arrays.fill(depths, NOT_ASKED);
        int depth = depthOfTable(table, 0);
        return depth == BEING_FOUND ? failed(RING) : depth;
    }

    public int count(int what) {
        switch (what) {
            case 0:
                return tableCount;
            case 1:
                return standingRows();
            case 2:
                return allFallenPlaces();
            case 3:
                return failures;
            default:
                return OUTSIDE;
        }
    }

    public int clear() {
        int there = tableCount;
        tableCount = 0;
        failures = 0;
        wordCount = 0;
        enteredCount = 0;
        return there;
    }

    private boolean isUnknown(int table) {
        return table < 0 || table >= tableCount;
    }

    private boolean isFull() {
        return tableCount >= MOST_TABLES;
    }

    private int failed(int cause) {
        failures++;
        return FAILED - cause;
    }

    /** Callers have seen that there is room, and that the number of places is within its bounds. */
    private int begun(int kind, int places) {
        int number = tableCount;
        tables[number].begin(kind, places);
        tableCount++;
        return number;
    }

    private int begunWithRows(int kind, int high, int wide) {
        int number = begun(kind, high);
        Table t = tables[number];
        for (int i = 0; i < t.high; i++) {
            t.rows[i] = new Row(kind, wide);
        }
        return number;
    }

    private static boolean canMultiply(Table first, Table second) {
        return first.kind != LINKS && first.kind == second.kind
            && first.isEven() && second.isEven() && first.wide() == second.high;
    }

    private static void multiply(Row to, int y, Row left, Table right) {
        switch (to.kind) {
            case BITS:
                multiplyBits(to, y, left, right);
                break;
            case NUMBERS:
                multiplyNumbers(to, y, left, right);
                break;
            default:
                multiplyReals(to, y, left, right);
                break;
        }
    }

    private static void multiplyBits(Row to, int y, Row left, Table right) {
        int some = 0;
        for (int k = 0; k < left.length(); k++) {
            some |= left.whole[k] & right.rows[k].whole[y];
        }
        to.whole[y] = some;
    }

    private static void multiplyNumbers(Row to, int y, Row left, Table right) {
        int sum = 0;
        for (int k = 0; k < left.length(); k++) {
            sum += left.whole[k] * right.rows[k].whole[y];
        }
        to.whole[y] = sum;
    }

    // The language has no NaN: each step that would answer it is seen before, and the cell is marked instead.
    private static void multiplyReals(Row to, int y, Row left, Table right) {
        double sum = 0.0;
        for (int k = 0; k < left.length(); k++) {
            Row below = right.rows[k];
            if (left.isNoNumber(k) || below.isNoNumber(y) || isNoProduct(left.reals[k], below.reals[y])) {
                to.markNoNumber(y);
                return;
            }
            double step = left.reals[k] * below.reals[y];
            if (isNoSum(sum, step)) {
                to.markNoNumber(y);
                return;
            }
            sum = sum + step;
        }
        to.reals[y] = sum;
    }

    private static boolean isNoProduct(double a, double b) {
        return a == 0.0 && isEndless(b) || b == 0.0 && isEndless(a);
    }

    private static boolean isNoSum(double a, double b) {
        return isEndless(a) && isEndless(b) && a != b;
    }

    private static boolean isEndless(double a) {
        final double greatest = 1.7976931348623157E308;
        return a > greatest || a < -greatest;
    }

    private static void writeSteps(int[] ways, int[] bits, int x) {
        for (int y = 0; y < ways.length && y < bits.length; y++) {
            if (y == x) {
                ways[y] = 0;
            } else {
                ways[y] = bits[y] != 0 ? 1 : NO_WAY;
            }
        }
    }

    private static void shortenThrough(int k, int[] ways, int[] onward) {
        if (ways[k] == NO_WAY) {
            return;
        }
        for (int y = 0; y < ways.length && y < onward.length; y++) {
            if (onward[y] != NO_WAY) {
                int way = ways[k] + onward[y];
                if (ways[y] == NO_WAY || way < ways[y]) {
                    ways[y] = way;
                }
            }
        }
    }

    private void packRow(int[] bits, int before) {
        for (int j = 0; j < bits.length; j++) {
            int bit = before + j;
            if (bits[j] != 0) {
                words[bit / WORD_BITS] |= 1 << (bit % WORD_BITS);
            }
        }
    }

    // A table that is open cannot be entered again, so the depth stays below the number of tables.
    private int totalOfTable(int table, int depth) {
        if (open[table] || depth >= MOST_TABLES) {
            totalCause = RING;
            return 0;
        }
        if (enteredCount >= MOST_ENTERED) {
            totalCause = SPENT;
            return 0;
        }
        enteredCount++;
        open[table] = true;
        Table t = tables[table];
        int sum = 0;
        for (int i = 0; i < t.high && totalCause == NO_CAUSE; i++) {
            sum += totalOfRow(t.rows[i], depth);
        }
        open[table] = false;
        return sum;
    }

    private int totalOfRow(Row row, int depth) {
        if (row == null) {
            totalCause = NULL;
            return 0;
        }
        return row.kind == LINKS ? totalOfLinks(row, depth) : row.sumOfCells();
    }

    private int totalOfLinks(Row row, int depth) {
        int sum = 0;
        for (int j = 0; j < row.length() && totalCause == NO_CAUSE; j++) {
            if (!isUnknown(row.whole[j])) {
                sum += totalOfTable(row.whole[j], depth + 1);
            }
        }
        return sum;
    }

    // What was found stays in depths for this call: without that, many links to one table would be followed each anew.
    private int depthOfTable(int table, int level) {
        if (depths[table] != NOT_ASKED) {
            return depths[table];
        }
        Table t = tables[table];
        if (t.kind != LINKS) {
            depths[table] = 0;
            return 0;
        }
        depths[table] = BEING_FOUND;
        int deepest = 0;
        for (int i = 0; i < t.high; i++) {
            int depth = deepestLink(t.rows[i], level);
            if (depth == BEING_FOUND) {
                return BEING_FOUND;
            }
            deepest = Math.max(deepest, depth);
        }
        depths[table] = deepest + 1;
        return deepest + 1;
    }

    private int deepestLink(Row row, int level) {
        if (row == null) {
            return 0;
        }
        if (level >= MOST_TABLES) {
            return BEING_FOUND;
        }
        int deepest = 0;
        for (int j = 0; j < row.length(); j++) {
            int link = row.whole[j];
            int depth = isUnknown(link) ? 0 : depthOfTable(link, level + 1);
            if (depth == BEING_FOUND) {
                return BEING_FOUND;
            }
            deepest = Math.max(deepest, depth);
        }
        return deepest;
    }

    private int standingRows() {
        countings++;
        int rows = 0;
        for (int t = 0; t < tableCount; t++) {
            rows += tables[t].rowsNotYetCounted(countings);
        }
        return rows;
    }

    private int allFallenPlaces() {
        int fallen = 0;
        for (int t = 0; t < tableCount; t++) {
            fallen += tables[t].fallenPlaces();
        }
        return fallen;
    }

    /** Made once with all places it can ever have, and begun anew each time its number comes up. */
    private static final class Table {
        final Row[] rows;
        int kind;
        int high;

        Table() {
            rows = new Row[MOST_PLACES];
        }

        void begin(int newKind, int places) {
            kind = newKind;
            high = places;
            for (int i = 0; i < rows.length; i++) {
                rows[i] = null;
            }
        }

        boolean hasPlace(int i) {
            return i >= 0 && i < high;
        }

        int placeCause(int i) {
            if (!hasPlace(i)) {
                return INDEX;
            }
            return rows[i] == null ? NULL : NO_CAUSE;
        }

        int cellCause(int i, int j) {
            int cause = placeCause(i);
            if (cause != NO_CAUSE) {
                return cause;
            }
            return rows[i].hasCells(j, 1) ? NO_CAUSE : INDEX;
        }

        boolean isEven() {
            for (int i = 0; i < high; i++) {
                if (rows[i] == null || rows[i].length() != wide()) {
                    return false;
                }
            }
            return true;
        }

        int wide() {
            return high == 0 || rows[0] == null ? 0 : rows[0].length();
        }

        int firstNotSquare() {
            for (int i = 0; i < high; i++) {
                if (rows[i] == null || rows[i].length() != high) {
                    return i;
                }
            }
            return NONE;
        }

        int fallenPlaces() {
            int fallen = 0;
            for (int i = 0; i < high; i++) {
                if (rows[i] == null) {
                    fallen++;
                }
            }
            return fallen;
        }

        int rowsNotYetCounted(int counting) {
            int found = 0;
            for (int i = 0; i < high; i++) {
                if (rows[i] != null && rows[i].countedIn != counting) {
                    rows[i].countedIn = counting;
                    found++;
                }
            }
            return found;
        }

        boolean agreesWith(Table other) {
            if (kind != other.kind || high != other.high) {
                return false;
            }
            for (int i = 0; i < high; i++) {
                Row one = rows[i];
                Row two = other.rows[i];
                boolean agree = one == null || two == null ? one == two : one.hasTheCellsOf(two);
                if (!agree) {
                    return false;
                }
            }
            return true;
        }
    }

    /** Stands only in tables of its own kind; a change is seen at every place that holds it. */
    private static final class Row {
        final int kind;
        /** Bits, numbers or links; in a row of reals 1 where there is no number (and the real is 0.0). */
        final int[] whole;
        /** Without cells in a row of another kind. */
        final double[] reals;
        int countedIn;

        Row(int kind, int cells) {
            this.kind = kind;
            whole = new int[cells];
            reals = new double[kind == REALS ? cells : 0];
            if (kind == LINKS) {
                Arrays.fill(whole, NONE);
            }
        }

        int length() {
            return whole.length;
        }

        /** Written as a difference, since a sum could wrap. */
        boolean hasCells(int from, int n) {
            return from >= 0 && n >= 0 && from <= whole.length - n;
        }

        void write(int j, int v) {
            switch (kind) {
                case BITS:
                    whole[j] = v != 0 ? 1 : 0;
                    break;
                case REALS:
                    whole[j] = 0;
                    reals[j] = v / 1000.0;
                    break;
                default:
                    whole[j] = v;
                    break;
            }
        }

        int cut(int j) {
            return kind == REALS ? (int) reals[j] : whole[j];
        }

        int sumOfCells() {
            int sum = 0;
            for (int j = 0; j < whole.length; j++) {
                sum += cut(j);
            }
            return sum;
        }

        boolean isNoNumber(int j) {
            return kind == REALS && whole[j] != 0;
        }

        void markNoNumber(int j) {
            whole[j] = 1;
            reals[j] = 0.0;
        }

        /** Callers have seen that both rows are of one kind and have these cells. */
        void takeCells(int to, Row source, int from, int n) {
            System.arraycopy(source.whole, from, whole, to, n);
            if (kind == REALS) {
                System.arraycopy(source.reals, from, reals, to, n);
            }
        }

        boolean hasTheCellsOf(Row other) {
            if (length() != other.length()) {
                return false;
            }
            for (int j = 0; j < length(); j++) {
                if (!hasTheCellOf(other, j)) {
                    return false;
                }
            }
            return true;
        }

        boolean hasTheCellOf(Row other, int j) {
            if (kind != REALS) {
                return whole[j] == other.whole[j];
            }
            return !isNoNumber(j) && !other.isNoNumber(j) && reals[j] == other.reals[j];
        }
    }
}
