/** 'What it is' and 'Terms': the bounds, the codes and the causes, and which of them comes first. */
final class TermsSentences extends Checks {
    private TermsSentences() {
    }

    static void all() {
        SentencesTest.section("What it is");
        SentencesTest.sentence("An object is used for at most 512 calls after it has been made", TermsSentences::calls512);
        SentencesTest.sentence("and leave no mark", TermsSentences::noMark);
        SentencesTest.section("Terms");
        SentencesTest.sentence("TABLES 0 to 15, as they come", TermsSentences::tablesAsTheyCome);
        SentencesTest.sentence("a KIND, 0 BITS, 1 NUMBERS (32 bits), 2 REALS, 3 LINKS", TermsSentences::kinds);
        SentencesTest.sentence("and 0 to 12 places", TermsSentences::places0To12);
        SentencesTest.sentence("at each a ROW (0 to 16 CELLS)", TermsSentences::cells0To16);
        SentencesTest.sentence("or it is FALLEN", TermsSentences::orFallen);
        SentencesTest.sentence("A ROW may stand at several places, of several TABLES.", TermsSentences::severalPlaces);
        SentencesTest.sentence("CELLS are 0 at first, of LINKS none.", TermsSentences::cellsAtFirst);
        SentencesTest.sentence("Codes, the first of these that fits", TermsSentences::firstCode);
        SentencesTest.sentence("UNKNOWN -1000001 (a TABLE that there is not)", TermsSentences::unknown);
        SentencesTest.sentence("OUTSIDE -1000002 (another number out of its bounds)", TermsSentences::outside);
        SentencesTest.sentence("STATE -1000003 (as told)", TermsSentences::state);
        SentencesTest.sentence("ROOM -1000004", TermsSentences::room);
        SentencesTest.sentence("what FAILS has a CAUSE, the first of these that fits", TermsSentences::firstCause);
        SentencesTest.sentence("1 NULL (a ROW that is FALLEN)", TermsSentences::causeNull);
        SentencesTest.sentence("2 INDEX (a place, a CELL that there is not)", TermsSentences::causeIndex);
        SentencesTest.sentence("3 STORE (a ROW for a TABLE of another KIND; CELLS copied to such a ROW)", TermsSentences::causeStore);
        SentencesTest.sentence("4 SIZE (a length below 0)", TermsSentences::causeSize);
        SentencesTest.sentence("5 RING", TermsSentences::causeRing);
        SentencesTest.sentence("6 SPENT", TermsSentences::causeSpent);
        SentencesTest.sentence("it answers -1000010 less the CAUSE", TermsSentences::lessTheCause);
        SentencesTest.sentence("In all these cases nothing changes.", TermsSentences::nothingChanges);
        SentencesTest.sentence("A place that there is not is INDEX ahead of NULL; then its ROW is asked.", TermsSentences::indexAheadOfNull);
        SentencesTest.sentence("A TABLE is EVEN, if none of its ROWS is FALLEN", TermsSentences::evenNoneFallen);
        SentencesTest.sentence("and all have one length", TermsSentences::evenOneLength);
        SentencesTest.sentence("its HIGH is how many places it has, its WIDE that length", TermsSentences::highAndWide);
        SentencesTest.sentence("(0 without a place)", TermsSentences::wideWithoutAPlace);
    }

    /** The dearest calls again and again; then the 511th and the 512th are still answered. */
    private static void calls512() {
        NestTables x = new NestTables();
        int calls = 0;
        while (calls + 29 <= 510) {
            evenOfOneRow(x, REALS, 12, 12);
            for (int made = 1; made < 16; made++) {
                due("product behind call " + calls, x.product(0, 0), made);
            }
            due("clear behind call " + calls, x.clear(), 16);
            calls += 13 + 15 + 1;
        }
        for (; calls < 510; calls++) {
            due("count(0) behind call " + calls, x.count(0), 0);
        }
        due("call 511, table", x.table(NUMBERS, 12), 0);
        due("call 512, count(2)", x.count(2), 12);
    }

    private static void noMark() {
        NestTables x = LinkSentences.ring();
        for (int time = 0; time < 3; time++) {
            due("total in a ring", x.total(0), RING);
            due("entered in a ring", x.entered(), 2);
            due("deep in a ring", x.deep(0), RING);
        }
        x.put(1, 0, 0, NONE);
        due("total behind the ring", x.total(0), 0);
        due("entered behind the ring", x.entered(), 2);
        due("deep behind the ring", x.deep(0), 2);
        x.fall(1, 0);
        due("total with what is fallen", x.total(0), NULL);
        x.row(1, 0, 1);
        due("total with what is no more fallen", x.total(0), 0);
    }

    private static void tablesAsTheyCome() {
        NestTables x = new NestTables();
        for (int t = 0; t < 16; t++) {
            due("told of table " + t + " ahead of it", x.told(t, 0, 0), UNKNOWN);
            due("table " + t, nextTable(x, t), t);
            due("told of table " + t, x.told(t, 0, 1), t == 0 ? 2 : x.told(0, 0, 1));
        }
        due("a seventeenth", nextTable(x, 16), ROOM);
        due("a seventeenth, without places", x.table(BITS, 0), ROOM);
        for (int t : cells(-1, 16, 17, LEAST, MOST)) {
            due("told of table " + t, x.told(t, 0, 0), UNKNOWN);
        }
        due("told of table 15", x.told(15, 0, 0), NUMBERS);
        due("count(0)", x.count(0), 16);
    }

    /** Each way of making a table in turn; all of them take the next number. */
    private static int nextTable(NestTables x, int t) {
        if (t == 0) {
            return evenOfOneRow(x, BITS, 2, 2);
        }
        switch (t % 4) {
            case 0: return x.product(0, 0);
            case 1: return x.turned(0);
            case 2: return x.table(LINKS, 2);
            default: return x.distances(0);
        }
    }

    private static void kinds() {
        NestTables x = new NestTables();
        for (int kind = BITS; kind <= LINKS; kind++) {
            with(x, kind, 2);
            due("told of the kind", x.told(kind, 0, 0), kind);
        }
        x.put(BITS, 0, 0, 2);
        due("a bit", x.get(BITS, 0, 0), 1);
        x.put(NUMBERS, 0, 0, LEAST);
        x.put(NUMBERS, 0, 1, MOST);
        due("the least number", x.get(NUMBERS, 0, 0), LEAST);
        due("the greatest number", x.get(NUMBERS, 0, 1), MOST);
        x.put(REALS, 0, 0, 2);
        dueReal("a real", x.real(REALS, 0, 0), 0.002);
        x.put(LINKS, 0, 0, 2);
        due("a link", x.get(LINKS, 0, 0), 2);
        due("a link that there is not", x.put(LINKS, 0, 1, 4), UNKNOWN);
        due("a kind below", x.table(-1, 1), OUTSIDE);
        due("a kind above", x.table(4, 1), OUTSIDE);
    }

    private static void places0To12() {
        NestTables x = new NestTables();
        x.table(NUMBERS, 0);
        due("none: row at 0", x.row(0, 0, 1), INDEX);
        due("none: fall at 0", x.fall(0, 0), INDEX);
        x.table(NUMBERS, 12);
        due("twelve: row at 11", x.row(1, 11, 1), 1);
        due("twelve: row at 12", x.row(1, 12, 1), INDEX);
        due("twelve: row at -1", x.row(1, -1, 1), INDEX);
        due("thirteen", x.table(NUMBERS, 13), OUTSIDE);
        due("-1", x.table(NUMBERS, -1), SIZE);
    }

    private static void cells0To16() {
        for (int kind = BITS; kind <= LINKS; kind++) {
            NestTables x = new NestTables();
            with(x, kind, 0, 16);
            due("none: put at 0", x.put(0, 0, 0, 0), INDEX);
            due("none: get at 0", x.get(0, 0, 0), INDEX);
            due("sixteen: put at 15", x.put(0, 1, 15, 0), 1);
            due("sixteen: get at 15", x.get(0, 1, 15), 0);
            due("sixteen: put at 16", x.put(0, 1, 16, 0), INDEX);
            due("sixteen: get at -1", x.get(0, 1, -1), INDEX);
            due("seventeen", x.row(0, 0, 17), OUTSIDE);
            due("-1", x.row(0, 0, -1), SIZE);
        }
    }

    private static void orFallen() {
        NestTables x = new NestTables();
        with(x, NUMBERS, 0, FALLEN);
        due("a row without cells is not fallen", x.told(0, 0, 2), 0);
        due("fallen", x.told(0, 1, 2), NULL);
        due("fallen places", x.count(2), 1);
        due("rows", x.count(1), 1);
    }

    private static void severalPlaces() {
        NestTables x = new NestTables();
        for (int t = 0; t < 16; t++) {
            x.table(NUMBERS, 12);
        }
        x.row(0, 0, 1);
        for (int at = 1; at < 192; at++) {
            x.share(at / 12, at % 12, 0, 0);
        }
        x.put(15, 11, 0, 42);
        for (int at = 0; at < 192; at++) {
            due("get at place " + at % 12 + " of " + at / 12, x.get(at / 12, at % 12, 0), 42);
        }
        due("one row", x.count(1), 1);
        due("no place is fallen", x.count(2), 0);
        due("the first and the last", x.same(0, 0, 15, 11), 1);
    }

    private static void cellsAtFirst() {
        for (int kind = BITS; kind <= LINKS; kind++) {
            NestTables x = new NestTables();
            with(x, kind, 16);
            cellsAreAtFirst(x, kind);
            for (int j = 0; j < 16; j++) {
                x.put(0, 0, j, 0);
                x.put(0, 0, j, kind == LINKS ? 0 : 5000);
            }
            x.row(0, 0, 16);
            cellsAreAtFirst(x, kind);
        }
    }

    private static void cellsAreAtFirst(NestTables x, int kind) {
        for (int j = 0; j < 16; j++) {
            due("cell " + j + " of kind " + kind, x.get(0, 0, j), kind == LINKS ? NONE : 0);
            dueReal("real " + j + " of kind " + kind, x.real(0, 0, j), 0.0);
        }
    }

    private static void firstCode() {
        refused("row: UNKNOWN ahead of OUTSIDE", Checks::inUse, x -> x.row(IN_USE, 0, 17), UNKNOWN);
        refused("told: UNKNOWN ahead of OUTSIDE", Checks::inUse, x -> x.told(IN_USE, 0, 3), UNKNOWN);
        refused("product: UNKNOWN ahead of STATE", Checks::inUse, x -> x.product(LINKS, IN_USE), UNKNOWN);
        refused("product: UNKNOWN of the first ahead of STATE", Checks::inUse, x -> x.product(IN_USE, LINKS), UNKNOWN);
        refused("turned: UNKNOWN ahead of ROOM", Checks::full, x -> x.turned(16), UNKNOWN);
        refused("product: UNKNOWN ahead of ROOM", Checks::full, x -> x.product(16, 5), UNKNOWN);
        refused("distances: UNKNOWN ahead of ROOM", Checks::full, x -> x.distances(-1), UNKNOWN);
        refused("table: OUTSIDE ahead of ROOM", Checks::full, x -> x.table(4, 0), OUTSIDE);
        refused("turned: STATE ahead of ROOM", Checks::full, x -> x.turned(NUMBERS), STATE);
        refused("product: STATE ahead of ROOM", Checks::full, x -> x.product(5, 6), STATE);
        refused("distances: STATE ahead of ROOM", Checks::full, x -> x.distances(6), STATE);
        refused("table: ROOM ahead of a cause", Checks::full, x -> x.table(BITS, -1), ROOM);
        refused("row: OUTSIDE ahead of a cause", Checks::inUse, x -> x.row(NUMBERS, 3, 17), OUTSIDE);
        refused("pack: STATE ahead of a cause", Checks::inUse, x -> x.pack(NUMBERS), STATE);
        refused("put: UNKNOWN ahead of a cause", Checks::inUse, x -> x.put(LINKS, 3, 0, IN_USE), UNKNOWN);
        refused("told: OUTSIDE ahead of a cause", Checks::inUse, x -> x.told(NUMBERS, 3, 3), OUTSIDE);
    }

    private static void unknown() {
        due("UNKNOWN", NestTables.UNKNOWN, UNKNOWN);
        for (int t : unknownInUse()) {
            refused("odd(" + t + ")", Checks::inUse, x -> x.odd(t), UNKNOWN);
        }
        due("the last one that there is", inUse().odd(IN_USE - 1), 0);
        due("the first one that there is", inUse().odd(0), 1);
    }

    private static void outside() {
        due("OUTSIDE", NestTables.OUTSIDE, OUTSIDE);
        refused("a kind", Checks::inUse, x -> x.table(4, 1), OUTSIDE);
        refused("places", Checks::inUse, x -> x.table(BITS, 13), OUTSIDE);
        refused("cells", Checks::inUse, x -> x.row(BITS, 0, 17), OUTSIDE);
        refused("what is told", Checks::inUse, x -> x.told(BITS, 0, 3), OUTSIDE);
        refused("what is counted", Checks::inUse, x -> x.count(4), OUTSIDE);
    }

    private static void state() {
        due("STATE", NestTables.STATE, STATE);
        refused("turned", Checks::inUse, x -> x.turned(NUMBERS), STATE);
        refused("product", Checks::inUse, x -> x.product(NUMBERS, NUMBERS), STATE);
        refused("distances", Checks::inUse, x -> x.distances(BITS), STATE);
        refused("pack", Checks::inUse, x -> x.pack(NUMBERS), STATE);
    }

    private static void room() {
        due("ROOM", NestTables.ROOM, ROOM);
        refused("table", Checks::full, x -> x.table(BITS, 1), ROOM);
        refused("turned", Checks::full, x -> x.turned(6), ROOM);
        refused("product", Checks::full, x -> x.product(6, 6), ROOM);
        refused("distances", Checks::full, x -> x.distances(5), ROOM);
        due("table, the sixteenth", almostFull().table(BITS, 1), 15);
        due("turned, the sixteenth", almostFull().turned(6), 15);
        due("product, the sixteenth", almostFull().product(6, 6), 15);
        due("distances, the sixteenth", almostFull().distances(5), 15);
    }

    private static void firstCause() {
        refused("NULL ahead of a cell's INDEX", Checks::inUse, x -> x.get(NUMBERS, 2, 99), NULL);
        refused("NULL ahead of STORE", Checks::inUse, x -> x.share(BITS, 0, NUMBERS, 2), NULL);
        refused("NULL ahead of a length below 0", Checks::inUse, x -> x.copy(NUMBERS, 2, 0, NUMBERS, 0, 0, -1), NULL);
        refused("INDEX of a place ahead of STORE", Checks::inUse, x -> x.share(BITS, 3, NUMBERS, 0), INDEX);
        refused("STORE ahead of a cell's INDEX, as copy says", Checks::inUse, x -> x.copy(NUMBERS, 0, 99, BITS, 0, 0, 1), STORE);
        refused("SIZE ahead of INDEX, as row says", Checks::inUse, x -> x.row(NUMBERS, 3, -1), SIZE);
    }

    private static void causeNull() {
        refused("share", Checks::inUse, x -> x.share(NUMBERS, 0, NUMBERS, 2), NULL);
        refused("put", Checks::inUse, x -> x.put(NUMBERS, 2, 0, 1), NULL);
        refused("get", Checks::inUse, x -> x.get(NUMBERS, 2, 0), NULL);
        refused("told", Checks::inUse, x -> x.told(NUMBERS, 2, 2), NULL);
        refused("copy", Checks::inUse, x -> x.copy(NUMBERS, 0, 0, NUMBERS, 2, 0, 0), NULL);
        refused("pack", Checks::inUse, x -> x.pack(BITS), NULL);
        totalFails("total", Checks::inUse, NUMBERS, NULL, 1);
    }

    private static void causeIndex() {
        for (int i : beyond(3)) {
            refused("row at " + i, Checks::inUse, x -> x.row(NUMBERS, i, 1), INDEX);
            refused("fall at " + i, Checks::inUse, x -> x.fall(NUMBERS, i), INDEX);
            refused("get at " + i, Checks::inUse, x -> x.get(NUMBERS, i, 0), INDEX);
            refused("get cell " + i, Checks::inUse, x -> x.get(NUMBERS, 0, i), INDEX);
            refused("put cell " + i, Checks::inUse, x -> x.put(NUMBERS, 0, i, 1), INDEX);
        }
        due("the last place", inUse().fall(NUMBERS, 2), 0);
        due("the last cell", inUse().get(NUMBERS, 0, 2), 9);
    }

    private static void causeStore() {
        for (int kind = BITS; kind <= LINKS; kind++) {
            for (int other = BITS; other <= LINKS; other++) {
                int to = kind;
                int from = other;
                int want = kind == other ? 1 : STORE;
                due("share " + from + " to " + to, inUse().share(to, 2, from, 0), want);
                due("copy " + from + " to " + to, inUse().copy(from, 0, 0, to, 1, 0, 2), want);
                if (want == STORE) {
                    refused("share " + from + " to " + to, Checks::inUse, x -> x.share(to, 0, from, 0), STORE);
                    refused("copy " + from + " to " + to, Checks::inUse, x -> x.copy(from, 0, 0, to, 1, 0, 2), STORE);
                }
            }
        }
    }

    private static void causeSize() {
        for (int length : cells(-1, -2, LEAST)) {
            refused("table of " + length, Checks::inUse, x -> x.table(BITS, length), SIZE);
            refused("row of " + length, Checks::inUse, x -> x.row(BITS, 0, length), SIZE);
        }
        due("table of 0", inUse().table(BITS, 0), IN_USE);
        due("row of 0", inUse().row(BITS, 0, 0), 1);
    }

    private static void causeRing() {
        totalFails("total", LinkSentences::ring, 0, RING, 2);
        refused("deep", LinkSentences::ring, x -> x.deep(0), RING);
    }

    private static void causeSpent() {
        totalFails("total that would enter 1001", () -> LinkSentences.entering(1001), 0, SPENT, 1000);
        due("total that enters 1000", LinkSentences.entering(1000).total(0), LinkSentences.LEAVES_OF_1000);
    }

    private static void lessTheCause() {
        due("NULL", inUse().get(NUMBERS, 2, 0), -1000010 - 1);
        due("INDEX", inUse().get(NUMBERS, 3, 0), -1000010 - 2);
        due("STORE", inUse().share(NUMBERS, 0, BITS, 0), -1000010 - 3);
        due("SIZE", inUse().table(BITS, -1), -1000010 - 4);
        due("RING", LinkSentences.ring().total(0), -1000010 - 5);
        due("SPENT", LinkSentences.entering(1001).total(0), -1000010 - 6);
    }

    /** All that can be refused or fail on one object: but for those that failed, which are counted, nothing is to be seen. */
    private static void nothingChanges() {
        NestTables untouched = full();
        NestTables called = full();
        int failed = refusedMaking(called) + failedAtRows(called) + failedAtCells(called) + refusedFinding(called);
        due("entered()", called.entered(), untouched.entered());
        unchangedBut("all that can be refused", untouched, called, failed);
    }

    private static int refusedMaking(NestTables x) {
        return answers("table of no kind", x.table(4, 0), OUTSIDE)
            + answers("table of 13", x.table(BITS, 13), OUTSIDE)
            + answers("table without room", x.table(BITS, 1), ROOM)
            + answers("turned: unknown", x.turned(16), UNKNOWN)
            + answers("turned: not even", x.turned(NUMBERS), STATE)
            + answers("turned: no room", x.turned(6), ROOM)
            + answers("product: unknown", x.product(6, 16), UNKNOWN)
            + answers("product: not even", x.product(6, NUMBERS), STATE)
            + answers("product: no room", x.product(6, 6), ROOM)
            + answers("distances: unknown", x.distances(16), UNKNOWN)
            + answers("distances: no bits", x.distances(6), STATE)
            + answers("distances: no room", x.distances(5), ROOM);
    }

    private static int failedAtRows(NestTables x) {
        return answers("row: unknown", x.row(16, 0, 1), UNKNOWN)
            + answers("row of 17", x.row(NUMBERS, 0, 17), OUTSIDE)
            + answers("row of -1", x.row(NUMBERS, 0, -1), SIZE)
            + answers("row at no place", x.row(NUMBERS, 3, 1), INDEX)
            + answers("share: unknown", x.share(NUMBERS, 0, 16, 0), UNKNOWN)
            + answers("share at no place", x.share(NUMBERS, 3, NUMBERS, 0), INDEX)
            + answers("share what is fallen", x.share(NUMBERS, 0, NUMBERS, 2), NULL)
            + answers("share of another kind", x.share(NUMBERS, 0, BITS, 0), STORE)
            + answers("fall: unknown", x.fall(16, 0), UNKNOWN)
            + answers("fall at no place", x.fall(NUMBERS, 3), INDEX)
            + answers("same: unknown", x.same(16, 0, 0, 0), UNKNOWN)
            + answers("same at no place", x.same(NUMBERS, 0, NUMBERS, 3), INDEX)
            + answers("told: unknown", x.told(16, 0, 0), UNKNOWN)
            + answers("told of 3", x.told(NUMBERS, 0, 3), OUTSIDE)
            + answers("told at no place", x.told(NUMBERS, 3, 2), INDEX)
            + answers("told of what is fallen", x.told(NUMBERS, 2, 2), NULL);
    }

    private static int failedAtCells(NestTables x) {
        dueReal("real of what is fallen", x.real(REALS, 2, 0), 0.0);
        return answers("put: unknown", x.put(16, 0, 0, 5), UNKNOWN)
            + answers("put a link: unknown", x.put(LINKS, 0, 0, 16), UNKNOWN)
            + answers("put at no place", x.put(NUMBERS, 3, 0, 5), INDEX)
            + answers("put to what is fallen", x.put(NUMBERS, 2, 0, 5), NULL)
            + answers("put to no cell", x.put(NUMBERS, 0, 3, 5), INDEX)
            + answers("get: unknown", x.get(16, 0, 0), UNKNOWN)
            + answers("get at no place", x.get(NUMBERS, 3, 0), INDEX)
            + answers("get of what is fallen", x.get(NUMBERS, 2, 0), NULL)
            + answers("get of no cell", x.get(NUMBERS, 0, 3), INDEX)
            + answers("copy: unknown", x.copy(16, 0, 0, NUMBERS, 0, 0, 1), UNKNOWN)
            + answers("copy at no place", x.copy(NUMBERS, 0, 0, NUMBERS, 3, 0, 1), INDEX)
            + answers("copy to what is fallen", x.copy(NUMBERS, 0, 0, NUMBERS, 2, 0, 1), NULL)
            + answers("copy of another kind", x.copy(NUMBERS, 0, 0, BITS, 0, 0, 1), STORE)
            + answers("copy beyond", x.copy(NUMBERS, 0, 0, NUMBERS, 1, 0, 3), INDEX);
    }

    private static int refusedFinding(NestTables x) {
        return answers("odd: unknown", x.odd(16), UNKNOWN)
            + answers("pack: unknown", x.pack(16), UNKNOWN)
            + answers("pack of no bits", x.pack(NUMBERS), STATE)
            + answers("pack of what is fallen", x.pack(BITS), NULL)
            + answers("word that there is not", x.word(1), NONE)
            + answers("alike: unknown", x.alike(16, 0), UNKNOWN)
            + answers("total: unknown", x.total(16), UNKNOWN)
            + answers("deep: unknown", x.deep(16), UNKNOWN)
            + answers("count of 4", x.count(4), OUTSIDE);
    }

    /** How many calls failed by this one: 1 or 0. */
    private static int answers(String what, int got, int want) {
        due(what, got, want);
        return want <= NULL ? 1 : 0;
    }

    private static void indexAheadOfNull() {
        refused("share: INDEX of i ahead of NULL at j", Checks::inUse, x -> x.share(NUMBERS, 3, NUMBERS, 2), INDEX);
        refused("copy: INDEX of j ahead of NULL at i", Checks::inUse, x -> x.copy(NUMBERS, 2, 0, NUMBERS, 3, 0, 1), INDEX);
        refused("copy: INDEX of i ahead of NULL at j", Checks::inUse, x -> x.copy(NUMBERS, -1, 0, NUMBERS, 2, 0, 1), INDEX);
        refused("get: then its row is asked", Checks::inUse, x -> x.get(NUMBERS, 2, -1), NULL);
        refused("put: then its row is asked", Checks::inUse, x -> x.put(NUMBERS, 2, MOST, 1), NULL);
        refused("told: then its row is asked", Checks::inUse, x -> x.told(NUMBERS, 2, 2), NULL);
    }

    private static void evenNoneFallen() {
        for (int at = 0; at < 3; at++) {
            NestTables x = new NestTables();
            with(x, NUMBERS, 3, 3, 3);
            due("turned, none fallen", x.turned(0), 1);
            due("product, none fallen", x.product(0, 0), 2);
            x.fall(0, at);
            due("turned, fallen at " + at, x.turned(0), STATE);
            due("product, the first fallen at " + at, x.product(0, 1), STATE);
            due("product, the second fallen at " + at, x.product(1, 0), STATE);
        }
        NestTables y = new NestTables();
        with(y, NUMBERS, FALLEN);
        due("turned, the one place is fallen", y.turned(0), STATE);
        with(y, NUMBERS, FALLEN, FALLEN);
        due("turned, all are fallen", y.turned(1), STATE);
    }

    private static void evenOneLength() {
        for (int at = 0; at < 3; at++) {
            for (int length : cells(2, 4, 0)) {
                NestTables x = new NestTables();
                with(x, NUMBERS, 3, 3, 3);
                with(x, NUMBERS, 3, 3, 3);
                x.row(0, at, length);
                due("turned, " + length + " at " + at, x.turned(0), STATE);
                due("product, the first with " + length + " at " + at, x.product(0, 1), STATE);
                due("product, the second with " + length + " at " + at, x.product(1, 0), STATE);
                x.row(0, at, 3);
                due("turned, all 3", x.turned(0), 2);
            }
        }
    }

    private static void highAndWide() {
        NestTables x = new NestTables();
        with(x, NUMBERS, 5, 5);
        with(x, NUMBERS, 3, 3, 3, 3, 3);
        due("product", x.product(0, 1), 2);
        due("product: high of the first", x.told(2, 0, 1), 2);
        due("product: wide of the second", x.told(2, 1, 2), 3);
        due("product that does not fit", x.product(1, 0), STATE);
        due("turned", x.turned(0), 3);
        due("turned: its high is the wide", x.told(3, 0, 1), 5);
        due("turned: its wide is the high", x.told(3, 4, 2), 2);
    }

    private static void wideWithoutAPlace() {
        NestTables x = new NestTables();
        with(x, NUMBERS);
        with(x, NUMBERS, 0);
        with(x, NUMBERS, 1);
        due("product of none and none", x.product(0, 0), 3);
        due("product of none and one", x.product(0, 1), STATE);
        due("product of one without cells and none", x.product(1, 0), 4);
        due("product of one with a cell and none", x.product(2, 0), STATE);
        due("turned of none", x.turned(0), 5);
    }
}
