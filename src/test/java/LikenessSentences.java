/** Promises 17 and 18: tables that are alike, and one row at two places. */
final class LikenessSentences extends Checks {
    private LikenessSentences() {
    }

    static void all() {
        SentencesTest.section("Promise 17: alike");
        SentencesTest.sentence("Whether two have the same KIND", LikenessSentences::alikeKind);
        SentencesTest.sentence("as many places", LikenessSentences::alikePlaces);
        SentencesTest.sentence("and at each both are FALLEN", LikenessSentences::alikeFallen);
        SentencesTest.sentence("or ROWS with the same CELLS", LikenessSentences::alikeCells);
        SentencesTest.sentence("(reals by ==", LikenessSentences::alikeReals);
        SentencesTest.sentence("LINKS to the same TABLE): 1, 0.", LikenessSentences::alikeLinks);
        SentencesTest.sentence("UNKNOWN", LikenessSentences::alikeUnknown);
        SentencesTest.section("Promise 18: same");
        SentencesTest.sentence("Whether one ROW stands at both places: 1, 0", LikenessSentences::sameRow);
        SentencesTest.sentence("(one is FALLEN, too: 0)", LikenessSentences::sameFallen);
        SentencesTest.sentence("UNKNOWN", LikenessSentences::sameUnknown);
        SentencesTest.sentence("INDEX", LikenessSentences::sameIndex);
    }

    /** Both ways, since what is alike is so both ways; and no call fails. */
    private static void alike(String what, NestTables x, int one, int two, int want) {
        due(what, x.alike(one, two), want);
        due(what + ", the other way", x.alike(two, one), want);
        due(what + ", no call failed", x.count(3), 0);
    }

    private static void alikeKind() {
        for (int kind = BITS; kind <= LINKS; kind++) {
            for (int other = BITS; other <= LINKS; other++) {
                NestTables x = new NestTables();
                int want = kind == other ? 1 : 0;
                alike("no places", x, with(x, kind), with(x, other), want);
                alike("fallen", x, with(x, kind, FALLEN), with(x, other, FALLEN), want);
                alike("no cells", x, with(x, kind, 0), with(x, other, 0), want);
                alike("a new cell", x, with(x, kind, 1), with(x, other, 1), want);
            }
        }
    }

    private static void alikePlaces() {
        NestTables x = new NestTables();
        for (int n : cells(0, 1, 11, 12)) {
            x.table(NUMBERS, n);
        }
        for (int one = 0; one < 4; one++) {
            for (int two = 0; two < 4; two++) {
                alike("places", x, one, two, one == two ? 1 : 0);
            }
        }
        alike("one more, without cells", x, with(x, BITS, 1), with(x, BITS, 1, 0), 0);
        alike("one more, fallen", x, with(x, BITS, 1), with(x, BITS, 1, FALLEN), 0);
        alike("twelve", x, x.table(NUMBERS, 12), 3, 1);
    }

    private static void alikeFallen() {
        NestTables x = new NestTables();
        int t = with(x, NUMBERS, 1, FALLEN, 1);
        alike("at the same place", x, t, with(x, NUMBERS, 1, FALLEN, 1), 1);
        alike("at another place", x, t, with(x, NUMBERS, FALLEN, 1, 1), 0);
        alike("only one", x, t, with(x, NUMBERS, 1, 1, 1), 0);
        alike("only one, a row without cells", x, t, with(x, NUMBERS, 1, 0, 1), 0);
        alike("at the last place", x, with(x, NUMBERS, 1, 1, FALLEN), with(x, NUMBERS, 1, 1, 1), 0);
        alike("itself", x, t, t, 1);
    }

    private static void alikeCells() {
        NestTables x = new NestTables();
        int t = filled(x, NUMBERS, cells(1, 2, 3), cells(), cells(LEAST, MOST));
        int two = filled(x, NUMBERS, cells(1, 2, 3), cells(), cells(LEAST, MOST));
        alike("the same cells", x, t, two, 1);
        x.put(two, 2, 1, MOST - 1);
        alike("the last cell differs", x, t, two, 0);
        x.put(two, 2, 1, MOST);
        x.put(two, 0, 0, 0);
        alike("the first cell differs", x, t, two, 0);
        x.put(two, 0, 0, 1);
        x.row(two, 1, 1);
        alike("one cell more", x, t, two, 0);
        x.row(two, 1, 0);
        alike("the same cells again", x, t, two, 1);
        x.share(two, 0, t, 0);
        alike("one row in both", x, t, two, 1);
        int bits = filled(x, BITS, cells(1, 0));
        alike("bits", x, bits, filled(x, BITS, cells(-7, 0)), 1);
        alike("other bits", x, bits, filled(x, BITS, cells(1, 1)), 0);
        int most = evenOfOneRow(x, NUMBERS, 12, 16);
        int again = evenOfOneRow(x, NUMBERS, 12, 16);
        x.row(again, 11, 16);
        alike("twelve of sixteen", x, most, again, 1);
        x.put(again, 11, 15, 1);
        alike("twelve of sixteen, the last differs", x, most, again, 0);
    }

    private static void alikeReals() {
        NestTables x = new NestTables();
        alike("thousandths that cut alike", x, filled(x, REALS, cells(1)), filled(x, REALS, cells(2)), 0);
        alike("the same thousandths", x, filled(x, REALS, cells(2)), 1, 1);
        alike("below 0", x, filled(x, REALS, cells(-2)), 1, 0);
        int sum = x.product(filled(x, REALS, cells(1000, 1000)), filled(x, REALS, cells(100), cells(200)));
        alike("0.1 + 0.2 and 0.3", x, sum, filled(x, REALS, cells(300)), 0);
        alike("0.1 + 0.2 twice", x, sum, x.product(4, 5), 1);
        x.clear();
        int endless = endless(x);
        alike("without end", x, endless, x.product(endless - 1, endless - 1), 1);
        alike("without end and below", x, endless, x.product(endless, filled(x, REALS, cells(-1000))), 0);
        int none = x.product(endless, with(x, REALS, 1));
        alike("no number and itself", x, none, none, 0);
        alike("no number and 0", x, none, with(x, REALS, 1), 0);
        int shared = with(x, REALS, 1);
        x.share(shared, 0, none, 0);
        alike("no number, one row in both", x, none, shared, 0);
        x.put(shared, 0, 0, 0);
        alike("a number again, one row in both", x, none, shared, 1);
    }

    private static void alikeLinks() {
        NestTables x = new NestTables();
        with(x, BITS, 1);
        with(x, BITS, 1);
        int links = filled(x, LINKS, cells(0, NONE));
        alike("to the same", x, links, filled(x, LINKS, cells(0, NONE)), 1);
        alike("to another that is alike", x, links, filled(x, LINKS, cells(1, NONE)), 0);
        alike("to none", x, links, filled(x, LINKS, cells(NONE, NONE)), 0);
        alike("to one more", x, links, filled(x, LINKS, cells(0, 0)), 0);
        int round = with(x, LINKS, 1);
        x.put(round, 0, 0, round);
        alike("to itself", x, round, round, 1);
        alike("to it from another", x, round, filled(x, LINKS, cells(round)), 1);
    }

    private static void alikeUnknown() {
        for (int t : unknownInUse()) {
            refused("alike(" + t + ", 1)", Checks::inUse, x -> x.alike(t, NUMBERS), UNKNOWN);
            refused("alike(1, " + t + ")", Checks::inUse, x -> x.alike(NUMBERS, t), UNKNOWN);
            refused("alike(" + t + ", itself)", Checks::inUse, x -> x.alike(t, t), UNKNOWN);
        }
        due("the last one", inUse().alike(IN_USE - 1, IN_USE - 1), 1);
        refused("alike changes nothing", Checks::inUse, x -> x.alike(NUMBERS, 4), 0);
    }

    private static void sameRow() {
        NestTables x = inUse();
        due("itself", x.same(NUMBERS, 0, NUMBERS, 0), 1);
        due("in another table", x.same(NUMBERS, 0, 4, 0), 1);
        due("in another table, the other way", x.same(4, 0, NUMBERS, 0), 1);
        due("another row", x.same(NUMBERS, 0, NUMBERS, 1), 0);
        due("another row of another kind", x.same(NUMBERS, 0, BITS, 0), 0);
        x.share(NUMBERS, 2, NUMBERS, 0);
        due("at three places", x.same(NUMBERS, 2, 4, 0), 1);
        x.row(4, 0, 3);
        due("no more", x.same(NUMBERS, 0, 4, 0), 0);
        int alike = filled(x, NUMBERS, cells(10, 11));
        due("alike is not the same", x.same(NUMBERS, 1, alike, 0), 0);
        with(x, NUMBERS, 0, 0);
        due("without cells is not the same", x.same(6, 0, 6, 1), 0);
        evenOfOneRow(x, NUMBERS, 12, 1);
        due("the first and the last of twelve", x.same(7, 0, 7, 11), 1);
    }

    private static void sameFallen() {
        refused("the second fallen", Checks::inUse, x -> x.same(NUMBERS, 0, NUMBERS, 2), 0);
        refused("the first fallen", Checks::inUse, x -> x.same(NUMBERS, 2, NUMBERS, 0), 0);
        refused("both fallen", Checks::inUse, x -> x.same(NUMBERS, 2, BITS, 2), 0);
        refused("one place that is fallen", Checks::inUse, x -> x.same(NUMBERS, 2, NUMBERS, 2), 0);
    }

    private static void sameUnknown() {
        for (int t : unknownInUse()) {
            refused("same(" + t + ", ..)", Checks::inUse, x -> x.same(t, 0, NUMBERS, 0), UNKNOWN);
            refused("same(.., " + t + ")", Checks::inUse, x -> x.same(NUMBERS, 0, t, 0), UNKNOWN);
            refused("same(" + t + ", ..), ahead of INDEX", Checks::inUse, x -> x.same(t, 0, NUMBERS, 3), UNKNOWN);
            refused("same(.., " + t + "), ahead of INDEX", Checks::inUse, x -> x.same(NUMBERS, 3, t, 0), UNKNOWN);
        }
        due("the last one", inUse().same(IN_USE - 1, 0, IN_USE - 1, 0), 1);
    }

    private static void sameIndex() {
        for (int at : beyond(3)) {
            refused("the first at " + at, Checks::inUse, x -> x.same(NUMBERS, at, NUMBERS, 0), INDEX);
            refused("the second at " + at, Checks::inUse, x -> x.same(NUMBERS, 0, NUMBERS, at), INDEX);
            refused("the first at " + at + ", the second fallen", Checks::inUse, x -> x.same(NUMBERS, at, NUMBERS, 2), INDEX);
            refused("the second at " + at + ", the first fallen", Checks::inUse, x -> x.same(NUMBERS, 2, NUMBERS, at), INDEX);
            refused("both at " + at, Checks::inUse, x -> x.same(NUMBERS, at, NUMBERS, at), INDEX);
        }
        refused("beyond the shorter table", Checks::inUse, x -> x.same(4, 1, NUMBERS, 1), INDEX);
        refused("beyond the shorter table, the other way", Checks::inUse, x -> x.same(NUMBERS, 1, 4, 1), INDEX);
        due("beyond the shorter table's end", inUse().same(NUMBERS, 1, 4, 0), 0);
    }
}
