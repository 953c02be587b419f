/** Promise 11: copies of pieces. */
final class CopySentences extends Checks {
    private CopySentences() {
    }

    static void all() {
        SentencesTest.section("Promise 11: copy");
        SentencesTest.sentence("n CELLS of the ROW at place i, from a on, come to the ROW at place j of another TABLE, from b on", CopySentences::cellsCome);
        SentencesTest.sentence("(of one ROW, as if taken away first)", CopySentences::ofOneRow);
        SentencesTest.sentence("UNKNOWN", CopySentences::unknown);
        SentencesTest.sentence("INDEX (i, j)", CopySentences::indexOfPlaces);
        SentencesTest.sentence("NULL (either)", CopySentences::eitherNull);
        SentencesTest.sentence("STORE", CopySentences::store);
        SentencesTest.sentence("INDEX (a, b, n below 0", CopySentences::below0);
        SentencesTest.sentence("or beyond either)", CopySentences::beyondEither);
    }

    private static void cellsCome() {
        NestTables x = new NestTables();
        int from = filled(x, NUMBERS, cells(1, 2, 3, 4, 5));
        int to = filled(x, NUMBERS, cells(0, 0), cells(6, 7, 8, 9));
        due("a piece", x.copy(from, 0, 1, to, 1, 2, 2), 1);
        holds("a piece", x, to, NUMBERS, cells(0, 0), cells(6, 7, 2, 3));
        holds("it stays where it was", x, from, NUMBERS, cells(1, 2, 3, 4, 5));
        x.put(from, 0, 1, 99);
        due("the rows are still two", x.get(to, 1, 2), 2);
        due("all that fits", x.copy(from, 0, 0, to, 1, 0, 4), 1);
        holds("all that fits", x, to, NUMBERS, cells(0, 0), cells(1, 99, 3, 4));
        due("none", x.copy(from, 0, 2, to, 1, 1, 0), 1);
        holds("none", x, to, NUMBERS, cells(0, 0), cells(1, 99, 3, 4));
        due("between rows of one table", x.copy(to, 1, 2, to, 0, 0, 2), 1);
        holds("between rows of one table", x, to, NUMBERS, cells(3, 4), cells(1, 99, 3, 4));
        ofOtherKinds();
        wholeRows();
    }

    private static void ofOtherKinds() {
        NestTables x = new NestTables();
        int bits = filled(x, BITS, cells(1, 0, 1, 1), cells(0, 1, 0, 0));
        x.copy(bits, 0, 1, bits, 1, 1, 2);
        holds("bits", x, bits, BITS, cells(1, 0, 1, 1), cells(0, 0, 1, 0));
        int reals = filled(x, REALS, cells(1500, -2500, 250), cells(0, 0));
        x.copy(reals, 0, 1, reals, 1, 0, 2);
        dueReal("reals", x.real(reals, 1, 0), -2.5);
        dueReal("reals, the second", x.real(reals, 1, 1), 0.25);
        int links = filled(x, LINKS, cells(0, NONE), cells(1, 1));
        x.copy(links, 0, 0, links, 1, 0, 2);
        holds("links", x, links, LINKS, cells(0, NONE), cells(0, NONE));
        x.clear();
        int none = noNumber(x);
        int to = filled(x, REALS, cells(1000, 1000));
        x.copy(none, 0, 0, to, 0, 1, 1);
        due("what is no number comes along", x.alike(to, to), 0);
        x.copy(to, 0, 0, to, 0, 1, 1);
        due("and goes when a number comes", x.alike(to, to), 1);
    }

    private static void wholeRows() {
        for (int kind = BITS; kind <= LINKS; kind++) {
            NestTables x = new NestTables();
            with(x, kind, 16, 16);
            for (int j = 0; j < 16; j++) {
                x.put(0, 0, j, kind == LINKS ? 0 : j % 2 * 1000);
            }
            due("sixteen cells of kind " + kind, x.copy(0, 0, 0, 0, 1, 0, 16), 1);
            for (int j = 0; j < 16; j++) {
                due("cell " + j + " of kind " + kind, x.get(0, 1, j), x.get(0, 0, j));
            }
            due("the rows are two", x.same(0, 0, 0, 1), 0);
        }
    }

    private static void ofOneRow() {
        NestTables x = new NestTables();
        int t = filled(x, NUMBERS, cells(1, 2, 3, 4, 5), cells());
        due("onward", x.copy(t, 0, 0, t, 0, 1, 4), 1);
        holds("onward", x, t, NUMBERS, cells(1, 1, 2, 3, 4), cells());
        due("back", x.copy(t, 0, 2, t, 0, 0, 3), 1);
        holds("back", x, t, NUMBERS, cells(2, 3, 4, 3, 4), cells());
        due("to itself", x.copy(t, 0, 0, t, 0, 0, 5), 1);
        holds("to itself", x, t, NUMBERS, cells(2, 3, 4, 3, 4), cells());
        x.share(t, 1, t, 0);
        due("at two places", x.copy(t, 0, 0, t, 1, 1, 4), 1);
        holds("at two places", x, t, NUMBERS, cells(2, 2, 3, 4, 3), cells(2, 2, 3, 4, 3));
        int other = with(x, NUMBERS, 0);
        x.share(other, 0, t, 0);
        due("in two tables", x.copy(t, 1, 1, other, 0, 0, 4), 1);
        holds("in two tables", x, other, NUMBERS, cells(2, 3, 4, 3, 3));
        due("in two tables, onward", x.copy(other, 0, 0, t, 0, 2, 3), 1);
        holds("in two tables, onward", x, t, NUMBERS, cells(2, 3, 2, 3, 4), cells(2, 3, 2, 3, 4));
        ofOneRowOfOtherKinds();
    }

    private static void ofOneRowOfOtherKinds() {
        NestTables x = new NestTables();
        int bits = filled(x, BITS, cells(1, 0, 0, 1));
        x.copy(bits, 0, 0, bits, 0, 1, 3);
        holds("bits onward", x, bits, BITS, cells(1, 1, 0, 0));
        int reals = filled(x, REALS, cells(1000, 2000, 3000, 4000));
        x.copy(reals, 0, 0, reals, 0, 1, 3);
        holds("reals onward", x, reals, REALS, cells(1, 1, 2, 3));
        x.copy(reals, 0, 2, reals, 0, 1, 2);
        holds("reals back", x, reals, REALS, cells(1, 2, 3, 3));
        int links = filled(x, LINKS, cells(0, 1, NONE, 0));
        x.copy(links, 0, 0, links, 0, 1, 3);
        holds("links onward", x, links, LINKS, cells(0, 0, 1, NONE));
    }

    private static void unknown() {
        for (int t : unknownInUse()) {
            refused("copy from " + t, Checks::inUse, x -> x.copy(t, 0, 0, NUMBERS, 0, 0, 1), UNKNOWN);
            refused("copy to " + t, Checks::inUse, x -> x.copy(NUMBERS, 0, 0, t, 0, 0, 1), UNKNOWN);
            refused("copy from " + t + ", ahead of INDEX", Checks::inUse, x -> x.copy(t, 0, 0, NUMBERS, 3, 0, 1), UNKNOWN);
            refused("copy to " + t + ", ahead of INDEX", Checks::inUse, x -> x.copy(NUMBERS, 3, 0, t, 0, 0, 1), UNKNOWN);
            refused("copy to " + t + ", ahead of NULL", Checks::inUse, x -> x.copy(NUMBERS, 2, 0, t, 0, 0, 1), UNKNOWN);
        }
        due("copy to the last one", inUse().copy(NUMBERS, 1, 0, IN_USE - 1, 0, 0, 1), 1);
        due("copy from the last one", inUse().copy(IN_USE - 1, 0, 0, NUMBERS, 1, 0, 1), 1);
    }

    private static void indexOfPlaces() {
        for (int at : beyond(3)) {
            refused("copy from " + at, Checks::inUse, x -> x.copy(NUMBERS, at, 0, NUMBERS, 0, 0, 1), INDEX);
            refused("copy to " + at, Checks::inUse, x -> x.copy(NUMBERS, 0, 0, NUMBERS, at, 0, 1), INDEX);
            refused("copy from " + at + ", ahead of NULL", Checks::inUse, x -> x.copy(NUMBERS, at, 0, NUMBERS, 2, 0, 1), INDEX);
            refused("copy to " + at + ", ahead of NULL", Checks::inUse, x -> x.copy(NUMBERS, 2, 0, NUMBERS, at, 0, 1), INDEX);
            refused("copy from " + at + ", ahead of STORE", Checks::inUse, x -> x.copy(NUMBERS, at, 0, BITS, 0, 0, 1), INDEX);
            refused("copy to " + at + ", ahead of STORE", Checks::inUse, x -> x.copy(NUMBERS, 0, 0, BITS, at, 0, 1), INDEX);
            refused("copy none from " + at, Checks::inUse, x -> x.copy(NUMBERS, at, 0, NUMBERS, 0, 0, 0), INDEX);
        }
        refused("copy from beyond the shorter table", Checks::inUse, x -> x.copy(4, 1, 0, NUMBERS, 1, 0, 1), INDEX);
        refused("copy to beyond the shorter table", Checks::inUse, x -> x.copy(NUMBERS, 1, 0, 4, 1, 0, 1), INDEX);
        due("copy from beyond the shorter table's end", inUse().copy(NUMBERS, 1, 0, 4, 0, 0, 1), 1);
    }

    private static void eitherNull() {
        refused("copy from what is fallen", Checks::inUse, x -> x.copy(NUMBERS, 2, 0, NUMBERS, 0, 0, 1), NULL);
        refused("copy to what is fallen", Checks::inUse, x -> x.copy(NUMBERS, 0, 0, NUMBERS, 2, 0, 1), NULL);
        refused("copy from fallen to fallen", Checks::inUse, x -> x.copy(NUMBERS, 2, 0, NUMBERS, 2, 0, 0), NULL);
        refused("copy from fallen, ahead of STORE", Checks::inUse, x -> x.copy(NUMBERS, 2, 0, BITS, 0, 0, 1), NULL);
        refused("copy to fallen, ahead of STORE", Checks::inUse, x -> x.copy(NUMBERS, 0, 0, BITS, 2, 0, 1), NULL);
        refused("copy from fallen, ahead of a cell's INDEX", Checks::inUse, x -> x.copy(NUMBERS, 2, -1, NUMBERS, 0, 0, 1), NULL);
        refused("copy to fallen, ahead of n below 0", Checks::inUse, x -> x.copy(NUMBERS, 0, 0, NUMBERS, 2, 0, -1), NULL);
    }

    private static void store() {
        for (int kind = BITS; kind <= LINKS; kind++) {
            for (int other = BITS; other <= LINKS; other++) {
                int from = kind;
                int to = other;
                if (kind == other) {
                    due("copy within kind " + from, inUse().copy(from, 0, 0, to, 1, 0, 1), 1);
                } else {
                    refused("copy kind " + from + " to " + to, Checks::inUse, x -> x.copy(from, 0, 0, to, 1, 0, 1), STORE);
                    refused("copy none of kind " + from + " to " + to, Checks::inUse, x -> x.copy(from, 0, 0, to, 1, 0, 0), STORE);
                    refused("copy too many of " + from + " to " + to, Checks::inUse, x -> x.copy(from, 0, 0, to, 1, 0, 3), STORE);
                }
            }
        }
        refused("STORE ahead of a below 0", Checks::inUse, x -> x.copy(NUMBERS, 0, -1, BITS, 0, 0, 1), STORE);
        refused("STORE ahead of b below 0", Checks::inUse, x -> x.copy(NUMBERS, 0, 0, BITS, 0, -1, 1), STORE);
        refused("STORE ahead of n below 0", Checks::inUse, x -> x.copy(NUMBERS, 0, 0, BITS, 0, 0, -1), STORE);
    }

    /** From the row of three cells at place 0 to the row of two at place 1, in each kind. */
    private static void isIndex(int a, int b, int n) {
        for (int kind = BITS; kind <= LINKS; kind++) {
            int t = kind;
            refused("copy of kind " + t + ", a " + a + ", b " + b + ", n " + n, Checks::inUse, x -> x.copy(t, 0, a, t, 1, b, n), INDEX);
        }
    }

    private static void isCopied(int a, int b, int n) {
        for (int kind = BITS; kind <= LINKS; kind++) {
            due("copy of kind " + kind + ", a " + a + ", b " + b + ", n " + n, inUse().copy(kind, 0, a, kind, 1, b, n), 1);
        }
    }

    private static void below0() {
        isCopied(0, 0, 0);
        for (int below : cells(-1, -2, LEAST)) {
            isIndex(below, 0, 1);
            isIndex(0, below, 1);
            isIndex(0, 0, below);
            isIndex(below, 0, 0);
            isIndex(0, below, 0);
            isIndex(1, 1, below);
            isIndex(below, below, below);
            isIndex(below, 0, 2);
            isIndex(0, below, 2);
        }
        isIndex(3, 2, -1);
        isIndex(4, 3, -1);
        isIndex(3, 2, LEAST);
    }

    private static void beyondEither() {
        isCopied(0, 0, 2);
        isCopied(1, 0, 2);
        isCopied(2, 1, 1);
        isIndex(2, 0, 2);
        isIndex(0, 1, 2);
        isIndex(0, 0, 3);
        isIndex(0, 0, 4);
        isIndex(3, 0, 1);
        isIndex(0, 2, 1);
        isCopied(3, 2, 0);
        isIndex(4, 0, 0);
        isIndex(0, 3, 0);
        isIndex(MOST, 0, 0);
        isIndex(0, MOST, 0);
        isIndex(0, 0, MOST);
        isIndex(1, 0, MOST);
        isIndex(0, 1, MOST);
        isIndex(MOST, 0, 1);
        isIndex(0, MOST, 1);
        isIndex(MOST, MOST, MOST);
        isIndex(MOST, MOST, 2);
        NestTables x = inUse();
        due("from the shorter to the longer, all", x.copy(NUMBERS, 1, 0, NUMBERS, 0, 1, 2), 1);
        due("from the shorter to the longer, one too many", x.copy(NUMBERS, 1, 0, NUMBERS, 0, 0, 3), INDEX);
        due("within one row, one too many", x.copy(NUMBERS, 0, 0, NUMBERS, 0, 1, 3), INDEX);
        x.row(NUMBERS, 2, 0);
        holds("behind these", x, NUMBERS, NUMBERS, cells(7, 10, 11), cells(10, 11), cells());
    }
}
