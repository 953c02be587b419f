/** Promises 1 to 10: tables, their rows and their cells. */
final class RowSentences extends Checks {
    private RowSentences() {
    }

    static void all() {
        tables();
        rows();
        cellsOfRows();
        told();
    }

    private static void tables() {
        SentencesTest.section("Promise 1: A new object");
        SentencesTest.sentence("No TABLES.", RowSentences::noTables);
        SentencesTest.section("Promise 2: table");
        SentencesTest.sentence("A TABLE of n places, all FALLEN: its number.", RowSentences::tableAllFallen);
        SentencesTest.sentence("OUTSIDE: the KIND", RowSentences::tableOutsideKind);
        SentencesTest.sentence("n above 12", RowSentences::tableAbove12);
        SentencesTest.sentence("ROOM", RowSentences::tableRoom);
        SentencesTest.sentence("SIZE", RowSentences::tableSize);
    }

    private static void rows() {
        SentencesTest.section("Promise 3: row");
        SentencesTest.sentence("A new ROW of so many CELLS to place i: 1.", RowSentences::rowNew);
        SentencesTest.sentence("UNKNOWN", RowSentences::rowUnknown);
        SentencesTest.sentence("OUTSIDE: above 16", RowSentences::rowAbove16);
        SentencesTest.sentence("SIZE ahead of INDEX", RowSentences::rowSizeAheadOfIndex);
        SentencesTest.section("Promise 4: share");
        SentencesTest.sentence("The ROW that stands at place j of another TABLE", RowSentences::shareOfAnother);
        SentencesTest.sentence("(or the same one)", RowSentences::shareOfTheSame);
        SentencesTest.sentence("stands at place i, too: 1.", RowSentences::shareTakesThePlace);
        SentencesTest.sentence("UNKNOWN", RowSentences::shareUnknown);
        SentencesTest.sentence("INDEX (j, i)", RowSentences::shareIndex);
        SentencesTest.sentence("NULL", RowSentences::shareNull);
        SentencesTest.sentence("STORE", RowSentences::shareStore);
        SentencesTest.section("Promise 5: fall");
        SentencesTest.sentence("Place i is FALLEN: 1 if it was not", RowSentences::fallOne);
        SentencesTest.sentence("else 0", RowSentences::fallAgain);
        SentencesTest.sentence("UNKNOWN", RowSentences::fallUnknown);
        SentencesTest.sentence("INDEX", RowSentences::fallIndex);
    }

    private static void cellsOfRows() {
        SentencesTest.section("Promise 6: put");
        SentencesTest.sentence("CELL j of the ROW at place i", RowSentences::putOneCell);
        SentencesTest.sentence("a bit (whether v is not 0)", RowSentences::putBit);
        SentencesTest.sentence("v thousandths (as doubles, / 1000.0)", RowSentences::putReal);
        SentencesTest.sentence("a LINK to TABLE v", RowSentences::putLink);
        SentencesTest.sentence("(NONE: to none)", RowSentences::putNoLink);
        SentencesTest.sentence("v", RowSentences::putNumber);
        SentencesTest.sentence("UNKNOWN", RowSentences::putUnknown);
        SentencesTest.sentence("(also of v)", RowSentences::putUnknownLink);
        SentencesTest.sentence("INDEX", RowSentences::putIndexOfPlace);
        SentencesTest.sentence("NULL", RowSentences::putNull);
        SentencesTest.sentence("INDEX", RowSentences::putIndexOfCell);
        SentencesTest.section("Promise 7: get");
        SentencesTest.sentence("What stands there: 1, 0", RowSentences::getBit);
        SentencesTest.sentence("the number", RowSentences::getNumber);
        SentencesTest.sentence("the real, cut to a whole number", RowSentences::getCut);
        SentencesTest.sentence("beyond 32 bits the nearest of these", RowSentences::getBeyond32Bits);
        SentencesTest.sentence("what is no number 0", RowSentences::getNoNumber);
        SentencesTest.sentence("the TABLE, NONE", RowSentences::getLink);
        SentencesTest.sentence("UNKNOWN", RowSentences::getUnknown);
        SentencesTest.sentence("INDEX", RowSentences::getIndexOfPlace);
        SentencesTest.sentence("NULL", RowSentences::getNull);
        SentencesTest.sentence("INDEX", RowSentences::getIndexOfCell);
        SentencesTest.sentence("(It may be any number.)", RowSentences::getAnyNumber);
        SentencesTest.section("Promise 8: real");
        SentencesTest.sentence("The real there", RowSentences::realThere);
        SentencesTest.sentence("(what is no number: 0.0)", RowSentences::realNoNumber);
        SentencesTest.sentence("of other KINDS", RowSentences::realOfOtherKinds);
        SentencesTest.sentence("and where get() is refused or FAILS: 0.0", RowSentences::realWhereGetFails);
        SentencesTest.sentence("(that is no FAIL)", RowSentences::realIsNoFail);
    }

    private static void told() {
        SentencesTest.section("Promise 9: told");
        SentencesTest.sentence("The KIND (what = 0)", RowSentences::toldKind);
        SentencesTest.sentence("how many places (1)", RowSentences::toldPlaces);
        SentencesTest.sentence("the length of the ROW at place i (2)", RowSentences::toldLength);
        SentencesTest.sentence("UNKNOWN", RowSentences::toldUnknown);
        SentencesTest.sentence("OUTSIDE", RowSentences::toldOutside);
        SentencesTest.sentence("of 2 INDEX", RowSentences::toldIndex);
        SentencesTest.sentence("NULL", RowSentences::toldNull);
        SentencesTest.section("Promise 10: odd");
        SentencesTest.sentence("The first place at which it is not square", RowSentences::oddFirst);
        SentencesTest.sentence("that is FALLEN", RowSentences::oddFallen);
        SentencesTest.sentence("or whose ROW has not as many CELLS as there are places", RowSentences::oddLength);
        SentencesTest.sentence("NONE", RowSentences::oddNone);
        SentencesTest.sentence("UNKNOWN", RowSentences::oddUnknown);
    }

    private static void noTables() {
        NestTables x = new NestTables();
        for (int what = 0; what <= 3; what++) {
            due("count(" + what + ")", x.count(what), 0);
        }
        for (int t : cells(0, -1, 15, 16, LEAST, MOST)) {
            refused("odd(" + t + ")", NestTables::new, y -> y.odd(t), UNKNOWN);
        }
        due("word(0)", x.word(0), NONE);
        due("entered()", x.entered(), 0);
        dueReal("real(0, 0, 0)", x.real(0, 0, 0), 0.0);
        due("clear()", x.clear(), 0);
        due("the first table", x.table(LINKS, 1), 0);
        due("another object has no tables", new NestTables().count(0), 0);
        callsOfANewObject();
    }

    private static void callsOfANewObject() {
        refused("row", NestTables::new, x -> x.row(0, 0, 1), UNKNOWN);
        refused("share", NestTables::new, x -> x.share(0, 0, 0, 0), UNKNOWN);
        refused("fall", NestTables::new, x -> x.fall(0, 0), UNKNOWN);
        refused("put", NestTables::new, x -> x.put(0, 0, 0, 1), UNKNOWN);
        refused("get", NestTables::new, x -> x.get(0, 0, 0), UNKNOWN);
        refused("told", NestTables::new, x -> x.told(0, 0, 1), UNKNOWN);
        refused("copy", NestTables::new, x -> x.copy(0, 0, 0, 0, 0, 0, 0), UNKNOWN);
        refused("turned", NestTables::new, x -> x.turned(0), UNKNOWN);
        refused("product", NestTables::new, x -> x.product(0, 0), UNKNOWN);
        refused("distances", NestTables::new, x -> x.distances(0), UNKNOWN);
        refused("pack", NestTables::new, x -> x.pack(0), UNKNOWN);
        refused("alike", NestTables::new, x -> x.alike(0, 0), UNKNOWN);
        refused("same", NestTables::new, x -> x.same(0, 0, 0, 0), UNKNOWN);
        refused("total", NestTables::new, x -> x.total(0), UNKNOWN);
        refused("deep", NestTables::new, x -> x.deep(0), UNKNOWN);
    }

    private static void tableAllFallen() {
        NestTables x = new NestTables();
        int fallen = 0;
        for (int n : cells(0, 1, 2, 11, 12)) {
            int t = x.count(0);
            due("table of " + n, x.table(t % 4, n), t);
            due("places of " + n, x.told(t, 0, 1), n);
            fallen += n;
            due("fallen behind " + n, x.count(2), fallen);
            due("rows behind " + n, x.count(1), 0);
        }
        for (int i = 0; i < 12; i++) {
            due("place " + i + " of twelve", x.told(4, i, 2), NULL);
        }
        due("place 12 of twelve", x.told(4, 12, 2), INDEX);
        x.clear();
        evenOfOneRow(x, BITS, 12, 1);
        x.clear();
        x.table(BITS, 12);
        due("all fallen where rows stood ahead of clear()", x.count(2), 12);
    }

    private static void tableOutsideKind() {
        for (int kind : cells(-1, 4, 5, LEAST, MOST)) {
            refused("table of kind " + kind, Checks::inUse, x -> x.table(kind, 1), OUTSIDE);
            refused("table of kind " + kind + ", ahead of SIZE", Checks::inUse, x -> x.table(kind, -1), OUTSIDE);
            refused("table of kind " + kind + ", ahead of ROOM", Checks::full, x -> x.table(kind, 1), OUTSIDE);
        }
        for (int kind = 0; kind <= 3; kind++) {
            NestTables x = inUse();
            due("table of kind " + kind, x.table(kind, 1), IN_USE);
            due("its kind", x.told(IN_USE, 0, 0), kind);
        }
    }

    private static void tableAbove12() {
        due("table of 12", inUse().table(BITS, 12), IN_USE);
        for (int n : cells(13, 14, MOST)) {
            refused("table of " + n, Checks::inUse, x -> x.table(BITS, n), OUTSIDE);
            refused("table of " + n + ", ahead of ROOM", Checks::full, x -> x.table(BITS, n), OUTSIDE);
        }
    }

    private static void tableRoom() {
        due("the sixteenth", almostFull().table(LINKS, 12), 15);
        for (int n : cells(0, 1, 12)) {
            refused("a seventeenth of " + n, Checks::full, x -> x.table(LINKS, n), ROOM);
        }
        refused("a seventeenth, ROOM ahead of SIZE", Checks::full, x -> x.table(LINKS, -1), ROOM);
        NestTables x = full();
        x.clear();
        due("room behind clear()", x.table(LINKS, 1), 0);
    }

    private static void tableSize() {
        due("table of 0", inUse().table(REALS, 0), IN_USE);
        for (int n : cells(-1, -2, LEAST)) {
            refused("table of " + n, Checks::inUse, x -> x.table(REALS, n), SIZE);
        }
    }

    private static void rowNew() {
        NestTables x = new NestTables();
        x.table(NUMBERS, 12);
        for (int length : cells(0, 1, 15, 16)) {
            for (int i : cells(0, 11)) {
                due("row of " + length + " at " + i, x.row(0, i, length), 1);
                due("its length", x.told(0, i, 2), length);
            }
            due("two rows", x.count(1), 2);
            due("they are not one", x.same(0, 0, 0, 11), 0);
        }
        x.put(0, 0, 15, 5);
        x.share(0, 5, 0, 0);
        x.row(0, 0, 16);
        due("a new row over another", x.get(0, 0, 15), 0);
        due("the old one still stands elsewhere", x.get(0, 5, 15), 5);
        x.put(0, 0, 15, 6);
        due("and does not change with the new one", x.get(0, 5, 15), 5);
        due("no call failed", x.count(3), 0);
    }

    private static void rowUnknown() {
        for (int t : unknownInUse()) {
            refused("row in " + t, Checks::inUse, x -> x.row(t, 0, 1), UNKNOWN);
            refused("row in " + t + ", ahead of OUTSIDE", Checks::inUse, x -> x.row(t, 0, 17), UNKNOWN);
            refused("row in " + t + ", ahead of SIZE", Checks::inUse, x -> x.row(t, 0, -1), UNKNOWN);
            refused("row in " + t + ", ahead of INDEX", Checks::inUse, x -> x.row(t, -1, 1), UNKNOWN);
        }
        due("row in the last one", inUse().row(IN_USE - 1, 0, 1), 1);
        due("row in the first one", inUse().row(0, 0, 1), 1);
    }

    private static void rowAbove16() {
        due("row of 16", inUse().row(NUMBERS, 2, 16), 1);
        for (int length : cells(17, 18, MOST)) {
            refused("row of " + length, Checks::inUse, x -> x.row(NUMBERS, 0, length), OUTSIDE);
            refused("row of " + length + ", ahead of INDEX", Checks::inUse, x -> x.row(NUMBERS, 3, length), OUTSIDE);
        }
    }

    private static void rowSizeAheadOfIndex() {
        for (int length : cells(-1, LEAST)) {
            refused("row of " + length, Checks::inUse, x -> x.row(NUMBERS, 0, length), SIZE);
            refused("row of " + length + " to what is fallen", Checks::inUse, x -> x.row(NUMBERS, 2, length), SIZE);
            for (int i : beyond(3)) {
                refused("row of " + length + " at " + i, Checks::inUse, x -> x.row(NUMBERS, i, length), SIZE);
            }
        }
        for (int i : beyond(3)) {
            refused("row of 0 at " + i, Checks::inUse, x -> x.row(NUMBERS, i, 0), INDEX);
            refused("row of 16 at " + i, Checks::inUse, x -> x.row(NUMBERS, i, 16), INDEX);
        }
        due("row of 0 at the last place", inUse().row(NUMBERS, 2, 0), 1);
        due("row of 0 at the first place", inUse().row(NUMBERS, 0, 0), 1);
    }

    private static void shareOfAnother() {
        NestTables x = new NestTables();
        with(x, NUMBERS, 2, 2, 2);
        x.table(NUMBERS, 12);
        due("share the first", x.share(1, 0, 0, 0), 1);
        due("share the last", x.share(1, 11, 0, 2), 1);
        due("the first is one", x.same(1, 0, 0, 0), 1);
        due("the last is one", x.same(1, 11, 0, 2), 1);
        due("others are not", x.same(1, 0, 0, 2), 0);
        x.put(0, 0, 0, 5);
        due("it changes in both", x.get(1, 0, 0), 5);
        x.put(1, 0, 1, 6);
        due("it changes in both, the other way", x.get(0, 0, 1), 6);
        due("fallen places", x.count(2), 10);
        due("rows", x.count(1), 3);
    }

    private static void shareOfTheSame() {
        NestTables x = inUse();
        due("share to another place", x.share(NUMBERS, 2, NUMBERS, 0), 1);
        due("one row", x.same(NUMBERS, 2, NUMBERS, 0), 1);
        due("share to its own place", x.share(NUMBERS, 1, NUMBERS, 1), 1);
        holds("behind both", x, NUMBERS, NUMBERS, cells(7, -8, 9), cells(10, 11), cells(7, -8, 9));
    }

    private static void shareTakesThePlace() {
        NestTables x = inUse();
        due("share over a row", x.share(NUMBERS, 0, NUMBERS, 1), 1);
        due("one row", x.same(NUMBERS, 0, NUMBERS, 1), 1);
        due("the row that stood there stands on elsewhere", x.get(4, 0, 2), 9);
        due("it stands there no more", x.same(NUMBERS, 0, 4, 0), 0);
        due("share to what is fallen", x.share(NUMBERS, 2, 4, 0), 1);
        due("it is no more fallen", x.told(NUMBERS, 2, 2), 3);
    }

    private static void shareUnknown() {
        for (int t : unknownInUse()) {
            refused("share to " + t, Checks::inUse, x -> x.share(t, 0, NUMBERS, 0), UNKNOWN);
            refused("share from " + t, Checks::inUse, x -> x.share(NUMBERS, 0, t, 0), UNKNOWN);
            refused("share to " + t + ", ahead of INDEX", Checks::inUse, x -> x.share(t, 0, NUMBERS, 3), UNKNOWN);
            refused("share from " + t + ", ahead of INDEX", Checks::inUse, x -> x.share(NUMBERS, 3, t, 0), UNKNOWN);
            refused("share to " + t + ", ahead of NULL", Checks::inUse, x -> x.share(t, 0, NUMBERS, 2), UNKNOWN);
        }
        due("share from the last one", inUse().share(NUMBERS, 1, IN_USE - 1, 0), 1);
        due("share to the last one", inUse().share(IN_USE - 1, 0, NUMBERS, 1), 1);
    }

    private static void shareIndex() {
        for (int at : beyond(3)) {
            refused("share from " + at, Checks::inUse, x -> x.share(NUMBERS, 0, NUMBERS, at), INDEX);
            refused("share to " + at, Checks::inUse, x -> x.share(NUMBERS, at, NUMBERS, 0), INDEX);
            refused("share to " + at + ", ahead of NULL", Checks::inUse, x -> x.share(NUMBERS, at, NUMBERS, 2), INDEX);
            refused("share from " + at + ", ahead of STORE", Checks::inUse, x -> x.share(NUMBERS, 0, BITS, at), INDEX);
            refused("share to " + at + ", ahead of STORE", Checks::inUse, x -> x.share(NUMBERS, at, BITS, 0), INDEX);
        }
        refused("share from beyond the shorter table", Checks::inUse, x -> x.share(NUMBERS, 1, 4, 1), INDEX);
        refused("share to beyond the shorter table", Checks::inUse, x -> x.share(4, 1, NUMBERS, 1), INDEX);
        due("share from beyond the shorter table's end", inUse().share(4, 0, NUMBERS, 1), 1);
        due("share to the last place", inUse().share(NUMBERS, 2, 4, 0), 1);
    }

    private static void shareNull() {
        refused("share what is fallen", Checks::inUse, x -> x.share(NUMBERS, 0, NUMBERS, 2), NULL);
        refused("share what is fallen to itself", Checks::inUse, x -> x.share(NUMBERS, 2, NUMBERS, 2), NULL);
        refused("share what is fallen, ahead of STORE", Checks::inUse, x -> x.share(NUMBERS, 0, BITS, 2), NULL);
        due("share to what is fallen", inUse().share(NUMBERS, 2, NUMBERS, 0), 1);
    }

    private static void shareStore() {
        for (int kind = BITS; kind <= LINKS; kind++) {
            for (int other = BITS; other <= LINKS; other++) {
                int to = kind;
                int from = other;
                if (kind == other) {
                    due("share within kind " + to, inUse().share(to, 0, from, 1), 1);
                } else {
                    refused("share kind " + from + " to " + to, Checks::inUse, x -> x.share(to, 0, from, 1), STORE);
                    refused("share kind " + from + " to fallen " + to, Checks::inUse, x -> x.share(to, 2, from, 1), STORE);
                }
            }
        }
    }

    private static void fallOne() {
        NestTables x = inUse();
        due("fall", x.fall(NUMBERS, 0), 1);
        due("asked", x.told(NUMBERS, 0, 2), NULL);
        due("the row stands on elsewhere", x.get(4, 0, 0), 7);
        due("other places stand", x.get(NUMBERS, 1, 0), 10);
        due("a row without cells falls, too", x.row(NUMBERS, 2, 0) + x.fall(NUMBERS, 2), 2);
        NestTables y = new NestTables();
        evenOfOneRow(y, BITS, 12, 1);
        due("fall at the last of twelve", y.fall(0, 11), 1);
        due("fall at the first of twelve", y.fall(0, 0), 1);
        due("fallen", y.count(2), 2);
    }

    private static void fallAgain() {
        NestTables x = inUse();
        due("fall of what never stood", x.fall(NUMBERS, 2), 0);
        x.fall(NUMBERS, 1);
        due("fall again", x.fall(NUMBERS, 1), 0);
        due("still fallen", x.told(NUMBERS, 1, 2), NULL);
        x.row(NUMBERS, 1, 1);
        due("fall of what stands again", x.fall(NUMBERS, 1), 1);
        due("that is no fail", x.count(3), 1 + 1);
    }

    private static void fallUnknown() {
        for (int t : unknownInUse()) {
            refused("fall in " + t, Checks::inUse, x -> x.fall(t, 0), UNKNOWN);
            refused("fall in " + t + ", ahead of INDEX", Checks::inUse, x -> x.fall(t, -1), UNKNOWN);
        }
        due("fall in the last one", inUse().fall(IN_USE - 1, 0), 1);
        due("fall in the first one", inUse().fall(0, 0), 1);
    }

    private static void fallIndex() {
        for (int i : beyond(3)) {
            refused("fall at " + i, Checks::inUse, x -> x.fall(NUMBERS, i), INDEX);
        }
        refused("fall where there is no place", Checks::full, x -> x.fall(15, 0), INDEX);
        due("fall at the last place", inUse().fall(NUMBERS, 2), 0);
        due("fall at the first place", inUse().fall(NUMBERS, 0), 1);
    }

    private static void putOneCell() {
        NestTables x = new NestTables();
        with(x, NUMBERS, 16, 3, 16);
        due("put the first", x.put(0, 0, 0, 5), 1);
        due("put the last", x.put(0, 2, 15, 6), 1);
        due("put the last of the short one", x.put(0, 1, 2, 7), 1);
        due("the first", x.get(0, 0, 0), 5);
        due("the last", x.get(0, 2, 15), 6);
        due("the last of the short one", x.get(0, 1, 2), 7);
        due("no other cell", x.total(0), 18);
    }

    private static void putBit() {
        NestTables x = inUse();
        for (int v : cells(1, -1, 2, 256, 65536, LEAST, MOST, NONE)) {
            x.put(BITS, 0, 1, 0);
            due("put " + v, x.put(BITS, 0, 1, v), 1);
            due("get behind " + v, x.get(BITS, 0, 1), 1);
        }
        due("put 0", x.put(BITS, 0, 1, 0), 1);
        due("get behind 0", x.get(BITS, 0, 1), 0);
        due("beside it", x.get(BITS, 0, 0) + x.get(BITS, 0, 2), 2);
    }

    private static void putNumber() {
        NestTables x = inUse();
        for (int v : cells(0, 1, -1, 127, 128, -129, 32768, 65536, LEAST, MOST, NONE, UNKNOWN, IN_USE)) {
            due("put " + v, x.put(NUMBERS, 0, 1, v), 1);
            due("get behind " + v, x.get(NUMBERS, 0, 1), v);
            due("get where it stands, too", x.get(4, 0, 1), v);
        }
        due("beside it", x.get(NUMBERS, 0, 0), 7);
        due("beside it, above", x.get(NUMBERS, 0, 2), 9);
    }

    private static void putReal() {
        NestTables x = inUse();
        for (int v : cells(0, 1, -1, 999, 1000, 1001, LEAST, MOST, NONE, IN_USE)) {
            due("put " + v, x.put(REALS, 0, 1, v), 1);
            dueReal("real behind " + v, x.real(REALS, 0, 1), v / 1000.0);
        }
        dueReal("divided, not multiplied by 0.001", real(x, 1001), 1001 / 1000.0);
        dueReal("as doubles", real(x, MOST), 2147483.647);
        dueReal("below 0", real(x, LEAST), -2147483.648);
        dueReal("beside it", x.real(REALS, 0, 0), 1.5);
        dueReal("beside it, above", x.real(REALS, 0, 2), 0.25);
    }

    private static double real(NestTables x, int v) {
        x.put(REALS, 0, 1, v);
        return x.real(REALS, 0, 1);
    }

    private static void putLink() {
        NestTables x = full();
        for (int v : cells(0, 1, LINKS, 14, 15)) {
            due("put a link to " + v, x.put(LINKS, 0, 1, v), 1);
            due("get behind " + v, x.get(LINKS, 0, 1), v);
        }
        due("beside it", x.get(LINKS, 0, 0), 0);
        due("beside it, above", x.get(LINKS, 0, 2), 2);
    }

    private static void putNoLink() {
        NestTables x = inUse();
        due("put none", x.put(LINKS, 0, 2, NONE), 1);
        due("get none", x.get(LINKS, 0, 2), NONE);
        due("put none again", x.put(LINKS, 0, 2, NONE), 1);
        refused("put beside none", Checks::inUse, y -> y.put(LINKS, 0, 2, NONE - 1), UNKNOWN);
        refused("put beside none, above", Checks::inUse, y -> y.put(LINKS, 0, 2, NONE + 1), UNKNOWN);
        refused("none at no place", Checks::inUse, y -> y.put(LINKS, 3, 0, NONE), INDEX);
        refused("none to what is fallen", Checks::inUse, y -> y.put(LINKS, 2, 0, NONE), NULL);
        refused("none to no cell", Checks::inUse, y -> y.put(LINKS, 0, 3, NONE), INDEX);
    }

    private static void putUnknown() {
        for (int t : unknownInUse()) {
            refused("put in " + t, Checks::inUse, x -> x.put(t, 0, 0, 0), UNKNOWN);
            refused("put in " + t + ", ahead of INDEX", Checks::inUse, x -> x.put(t, -1, 0, 0), UNKNOWN);
        }
        due("put in the last one", inUse().put(IN_USE - 1, 0, 0, 0), 1);
        due("put in the first one", inUse().put(0, 0, 0, 0), 1);
    }

    private static void putUnknownLink() {
        for (int v : cells(-1, IN_USE, 15, 16, LEAST, MOST, UNKNOWN)) {
            refused("put a link to " + v, Checks::inUse, x -> x.put(LINKS, 0, 0, v), UNKNOWN);
            refused("put a link to " + v + ", ahead of INDEX", Checks::inUse, x -> x.put(LINKS, 3, 0, v), UNKNOWN);
            refused("put a link to " + v + ", ahead of NULL", Checks::inUse, x -> x.put(LINKS, 2, 0, v), UNKNOWN);
            refused("put a link to " + v + ", ahead of a cell's INDEX", Checks::inUse, x -> x.put(LINKS, 0, 3, v), UNKNOWN);
            for (int kind = BITS; kind <= REALS; kind++) {
                due("put " + v + " in kind " + kind, inUse().put(kind, 0, 0, v), 1);
            }
        }
        due("put a link to the last one", inUse().put(LINKS, 0, 0, IN_USE - 1), 1);
        due("put a link to the first one", inUse().put(LINKS, 0, 2, 0), 1);
        NestTables x = inUse();
        x.table(BITS, 0);
        due("put a link to what has come now", x.put(LINKS, 0, 0, IN_USE), 1);
    }

    private static void putIndexOfPlace() {
        for (int i : beyond(3)) {
            for (int kind = BITS; kind <= LINKS; kind++) {
                int t = kind;
                refused("put at " + i + " of " + t, Checks::inUse, x -> x.put(t, i, 0, 1), INDEX);
            }
        }
        refused("put where there is no place", Checks::full, x -> x.put(15, 0, 0, 1), INDEX);
        due("put at the first place", inUse().put(NUMBERS, 0, 0, 1), 1);
        due("put at the last place but the fallen one", inUse().put(NUMBERS, 1, 0, 1), 1);
    }

    private static void putNull() {
        for (int kind = BITS; kind <= LINKS; kind++) {
            int t = kind;
            refused("put to what is fallen in " + t, Checks::inUse, x -> x.put(t, 2, 0, 1), NULL);
            refused("put to no cell of what is fallen in " + t, Checks::inUse, x -> x.put(t, 2, -1, 1), NULL);
        }
    }

    private static void putIndexOfCell() {
        for (int kind = BITS; kind <= LINKS; kind++) {
            int t = kind;
            for (int j : beyond(2)) {
                refused("put to cell " + j + " of " + t, Checks::inUse, x -> x.put(t, 1, j, 1), INDEX);
            }
            due("put to the last cell of " + t, inUse().put(t, 1, 1, 1), 1);
            due("put to the last cell of the longer row of " + t, inUse().put(t, 0, 2, 1), 1);
        }
    }

    private static void getBit() {
        NestTables x = inUse();
        due("1", x.get(BITS, 0, 0), 1);
        due("0", x.get(BITS, 0, 1), 0);
        due("the last", x.get(BITS, 1, 1), 1);
    }

    private static void getNumber() {
        NestTables x = new NestTables();
        filled(x, NUMBERS, cells(LEAST, -1, 0, 1, MOST));
        holds("numbers", x, 0, NUMBERS, cells(LEAST, -1, 0, 1, MOST));
    }

    private static void getCut() {
        int[] thousandths = {0, 1, 999, 1000, 1001, 1999, 2000, -1, -999, -1000, -1001, -1999, -2000, MOST, LEAST};
        int[] whole = {0, 0, 0, 1, 1, 1, 2, 0, 0, -1, -1, -1, -2, 2147483, -2147483};
        NestTables x = new NestTables();
        filled(x, REALS, thousandths);
        holds("reals cut", x, 0, REALS, whole);
    }

    /** Reals made of thousands and what is over, on both sides of each bound. */
    private static void getBeyond32Bits() {
        due("one less than the greatest", sumCut(2147483, 646000), MOST - 1);
        due("the greatest", sumCut(2147483, 647000), MOST);
        due("between the greatest and beyond", sumCut(2147483, 647999), MOST);
        due("one beyond the greatest", sumCut(2147483, 648000), MOST);
        due("far beyond", sumCut(2147483, MOST), MOST);
        due("one more than the least", sumCut(-2147483, -647000), LEAST + 1);
        due("the least", sumCut(-2147483, -648000), LEAST);
        due("between the least and beyond", sumCut(-2147483, -648999), LEAST);
        due("one beyond the least", sumCut(-2147483, -649000), LEAST);
        due("far beyond, below", sumCut(-2147483, LEAST), LEAST);
        NestTables x = new NestTables();
        int endless = endless(x);
        due("without end", x.get(endless, 0, 0), MOST);
        due("without end, below", x.get(x.product(endless, filled(x, REALS, cells(-1000))), 0, 0), LEAST);
    }

    private static int sumCut(int thousands, int overThousandths) {
        NestTables x = new NestTables();
        filled(x, REALS, cells(1000000, overThousandths));
        filled(x, REALS, cells(thousands * 1000), cells(1000));
        return x.get(x.product(0, 1), 0, 0);
    }

    private static void getNoNumber() {
        NestTables x = new NestTables();
        int none = noNumber(x);
        due("it is no number", x.alike(none, none), 0);
        due("get", x.get(none, 0, 0), 0);
        due("that is no fail", x.count(3), 0);
    }

    private static void getLink() {
        NestTables x = inUse();
        due("the first table", x.get(LINKS, 0, 0), 0);
        due("none", x.get(LINKS, 0, 1), NONE);
        due("another", x.get(LINKS, 0, 2), 2);
        NestTables y = full();
        y.put(LINKS, 0, 0, 15);
        due("the last table", y.get(LINKS, 0, 0), 15);
    }

    private static void getUnknown() {
        for (int t : unknownInUse()) {
            refused("get in " + t, Checks::inUse, x -> x.get(t, 0, 0), UNKNOWN);
            refused("get in " + t + ", ahead of INDEX", Checks::inUse, x -> x.get(t, -1, 0), UNKNOWN);
        }
        due("get in the last one", inUse().get(IN_USE - 1, 0, 0), 7);
        due("get in the first one", inUse().get(0, 0, 0), 1);
    }

    private static void getIndexOfPlace() {
        for (int i : beyond(3)) {
            refused("get at " + i, Checks::inUse, x -> x.get(NUMBERS, i, 0), INDEX);
            refused("get of no cell at " + i, Checks::inUse, x -> x.get(NUMBERS, i, -1), INDEX);
        }
        refused("get where there is no place", Checks::full, x -> x.get(15, 0, 0), INDEX);
        due("get at the first place", inUse().get(NUMBERS, 0, 0), 7);
        due("get at the second place", inUse().get(NUMBERS, 1, 0), 10);
    }

    private static void getNull() {
        for (int kind = BITS; kind <= LINKS; kind++) {
            int t = kind;
            refused("get of what is fallen in " + t, Checks::inUse, x -> x.get(t, 2, 0), NULL);
            refused("get of no cell of what is fallen in " + t, Checks::inUse, x -> x.get(t, 2, 3), NULL);
        }
    }

    private static void getIndexOfCell() {
        for (int kind = BITS; kind <= LINKS; kind++) {
            int t = kind;
            for (int j : beyond(2)) {
                refused("get cell " + j + " of " + t, Checks::inUse, x -> x.get(t, 1, j), INDEX);
            }
        }
        due("get the last cell", inUse().get(NUMBERS, 1, 1), 11);
        due("get the last cell of the longer row", inUse().get(NUMBERS, 0, 2), 9);
        NestTables x = new NestTables();
        with(x, NUMBERS, 0);
        due("get of a row without cells", x.get(0, 0, 0), INDEX);
    }

    /** A number may look like a code or a cause: then no call has failed. */
    private static void getAnyNumber() {
        NestTables x = new NestTables();
        int[] codes = {UNKNOWN, OUTSIDE, STATE, ROOM, NONE, NULL, INDEX, STORE, SIZE, RING, SPENT};
        filled(x, NUMBERS, codes);
        holds("codes", x, 0, NUMBERS, codes);
        due("no call has failed", x.count(3), 0);
    }

    private static void realThere() {
        NestTables x = new NestTables();
        int[] thousandths = {0, 1, -1, 1500, MOST, LEAST};
        double[] due = {0.0, 0.001, -0.001, 1.5, 2147483.647, -2147483.648};
        filled(x, REALS, thousandths);
        for (int j = 0; j < due.length; j++) {
            dueReal("real " + thousandths[j], x.real(0, 0, j), due[j]);
        }
        x.clear();
        int endless = endless(x);
        dueReal("without end", x.real(endless, 0, 0), Double.POSITIVE_INFINITY);
        int below = x.product(filled(x, REALS, cells(-1000)), endless);
        dueReal("without end, below", x.real(below, 0, 0), Double.NEGATIVE_INFINITY);
    }

    private static void realNoNumber() {
        NestTables x = new NestTables();
        int none = noNumber(x);
        due("it is no number", x.alike(none, none), 0);
        dueReal("without end by 0", x.real(none, 0, 0), 0.0);
        int turned = x.turned(none);
        dueReal("real, turned", x.real(turned, 0, 0), 0.0);
        int copied = filled(x, REALS, cells(4000));
        x.copy(none, 0, 0, copied, 0, 0, 1);
        dueReal("real, copied", x.real(copied, 0, 0), 0.0);
        x.put(copied, 0, 0, 4000);
        dueReal("real, put anew", x.real(copied, 0, 0), 4.0);
        due("put anew, it is a number", x.alike(copied, copied), 1);
        NestTables y = new NestTables();
        int endless = endless(y);
        int pair = with(y, REALS, 2);
        y.copy(endless, 0, 0, pair, 0, 0, 1);
        y.copy(endless, 0, 0, pair, 0, 1, 1);
        int opposite = y.product(pair, filled(y, REALS, cells(1000), cells(-1000)));
        dueReal("without end less without end", y.real(opposite, 0, 0), 0.0);
        dueReal("0 by without end", y.real(y.product(with(y, REALS, 1), endless), 0, 0), 0.0);
    }

    private static void realOfOtherKinds() {
        NestTables x = inUse();
        dueReal("of a bit", x.real(BITS, 0, 0), 0.0);
        dueReal("of a number", x.real(NUMBERS, 0, 0), 0.0);
        dueReal("of a link", x.real(LINKS, 0, 2), 0.0);
        dueReal("of no link", x.real(LINKS, 0, 1), 0.0);
        dueReal("of a real", x.real(REALS, 0, 0), 1.5);
    }

    private static void realWhereGetFails() {
        NestTables x = inUse();
        for (int t : unknownInUse()) {
            dueReal("unknown " + t, x.real(t, 0, 0), 0.0);
        }
        for (int at : beyond(3)) {
            dueReal("no place " + at, x.real(REALS, at, 0), 0.0);
            dueReal("no cell " + at, x.real(REALS, 0, at), 0.0);
            dueReal("no cell " + at + " of what is fallen", x.real(REALS, 2, at), 0.0);
        }
        dueReal("fallen", x.real(REALS, 2, 0), 0.0);
        dueReal("the last cell", x.real(REALS, 0, 2), 0.25);
        dueReal("the last cell of the shorter row", x.real(REALS, 1, 1), 0.999);
        dueReal("beyond the shorter row", x.real(REALS, 1, 2), 0.0);
    }

    /** refused() sees that nothing is counted; 0 stands for what real() answers. */
    private static void realIsNoFail() {
        for (int kind = BITS; kind <= LINKS; kind++) {
            int t = kind;
            refused("fallen in " + t, Checks::inUse, x -> (int) x.real(t, 2, 0), 0);
            refused("no place in " + t, Checks::inUse, x -> (int) x.real(t, 3, 0), 0);
            refused("no cell in " + t, Checks::inUse, x -> (int) x.real(t, 0, 3), 0);
        }
        refused("unknown", Checks::inUse, x -> (int) x.real(IN_USE, 0, 0), 0);
    }

    private static void toldKind() {
        NestTables x = full();
        for (int kind = BITS; kind <= LINKS; kind++) {
            due("kind", x.told(kind, 0, 0), kind);
        }
        for (int i : beyond(3)) {
            due("kind, whatever the place", x.told(REALS, i, 0), REALS);
        }
        due("kind, at what is fallen", x.told(LINKS, 2, 0), LINKS);
        due("kind of the last one, without places", x.told(15, 0, 0), BITS);
        due("no call failed", x.count(3), 1);
    }

    private static void toldPlaces() {
        NestTables x = new NestTables();
        for (int n : cells(0, 1, 12)) {
            int t = x.table(REALS, n);
            due("places", x.told(t, 0, 1), n);
            for (int i : beyond(n)) {
                due("places, whatever the place", x.told(t, i, 1), n);
            }
        }
        due("no call failed", x.count(3), 0);
    }

    private static void toldLength() {
        for (int kind = BITS; kind <= LINKS; kind++) {
            NestTables x = new NestTables();
            with(x, kind, 0, 1, 16);
            due("length 0", x.told(0, 0, 2), 0);
            due("length 1", x.told(0, 1, 2), 1);
            due("length 16", x.told(0, 2, 2), 16);
        }
    }

    private static void toldUnknown() {
        for (int t : unknownInUse()) {
            for (int what = -1; what <= 3; what++) {
                int asked = what;
                refused("told of " + t + ", " + asked, Checks::inUse, x -> x.told(t, 3, asked), UNKNOWN);
            }
        }
        due("told of the last one", inUse().told(IN_USE - 1, 0, 2), 3);
        due("told of the first one", inUse().told(0, 0, 2), 3);
    }

    private static void toldOutside() {
        for (int what : cells(-1, 3, 4, LEAST, MOST)) {
            refused("told " + what, Checks::inUse, x -> x.told(NUMBERS, 0, what), OUTSIDE);
            refused("told " + what + ", ahead of INDEX", Checks::inUse, x -> x.told(NUMBERS, 3, what), OUTSIDE);
            refused("told " + what + ", ahead of NULL", Checks::inUse, x -> x.told(NUMBERS, 2, what), OUTSIDE);
        }
    }

    private static void toldIndex() {
        for (int i : beyond(3)) {
            refused("length at " + i, Checks::inUse, x -> x.told(NUMBERS, i, 2), INDEX);
            due("kind at " + i, inUse().told(NUMBERS, i, 0), NUMBERS);
            due("places at " + i, inUse().told(NUMBERS, i, 1), 3);
        }
        refused("length where there is no place", Checks::full, x -> x.told(15, 0, 2), INDEX);
        due("length at the last row", inUse().told(NUMBERS, 1, 2), 2);
    }

    private static void toldNull() {
        refused("length of what is fallen", Checks::inUse, x -> x.told(NUMBERS, 2, 2), NULL);
        refused("kind at what is fallen", Checks::inUse, x -> x.told(NUMBERS, 2, 0), NUMBERS);
        refused("places at what is fallen", Checks::inUse, x -> x.told(NUMBERS, 2, 1), 3);
    }

    private static int oddOf(int... lengths) {
        NestTables x = new NestTables();
        return x.odd(with(x, NUMBERS, lengths));
    }

    private static void oddFirst() {
        due("of several, fallen first", oddOf(4, FALLEN, 3, FALLEN), 1);
        due("of several, short first", oddOf(4, 3, FALLEN, 5), 1);
        due("of several, all", oddOf(FALLEN, 3, 5), 0);
        for (int at = 0; at < 12; at++) {
            NestTables x = new NestTables();
            evenOfOneRow(x, BITS, 12, 12);
            x.row(0, at, 11);
            due("only at " + at, x.odd(0), at);
        }
        refused("that is no fail", Checks::inUse, x -> x.odd(NUMBERS), 1);
    }

    private static void oddFallen() {
        due("the only place", oddOf(FALLEN), 0);
        due("the first place", oddOf(FALLEN, 3, 3), 0);
        due("the last place", oddOf(3, 3, FALLEN), 2);
        NestTables x = new NestTables();
        evenOfOneRow(x, LINKS, 12, 12);
        x.fall(0, 11);
        due("the last of twelve", x.odd(0), 11);
    }

    private static void oddLength() {
        due("one less", oddOf(3, 3, 2), 2);
        due("as many", oddOf(3, 3, 3), NONE);
        due("one more", oddOf(3, 3, 4), 2);
        due("one place, no cells", oddOf(0), 0);
        due("one place, two cells", oddOf(2), 0);
        due("all of one length, too short", oddOf(2, 2, 2), 0);
        due("all of one length, too long", oddOf(16, 16), 0);
    }

    private static void oddNone() {
        due("no places", oddOf(), NONE);
        due("one place, one cell", oddOf(1), NONE);
        NestTables x = new NestTables();
        for (int kind = BITS; kind <= LINKS; kind++) {
            due("twelve of twelve", x.odd(evenOfOneRow(x, kind, 12, 12)), NONE);
        }
    }

    private static void oddUnknown() {
        for (int t : unknownInUse()) {
            refused("odd(" + t + ")", Checks::inUse, x -> x.odd(t), UNKNOWN);
        }
        due("odd of the last one", inUse().odd(IN_USE - 1), 0);
        due("odd of the last one without places", full().odd(15), NONE);
    }
}
