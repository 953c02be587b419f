/** Promises 12 to 16: tables turned and multiplied, distances found, bits packed to words. */
final class TableSentences extends Checks {
    private TableSentences() {
    }

    static void all() {
        turnedAndMultiplied();
        distancesAndWords();
    }

    private static void turnedAndMultiplied() {
        SentencesTest.section("Promise 12: turned");
        SentencesTest.sentence("A new TABLE, all with new ROWS", TableSentences::turnedIsNew);
        SentencesTest.sentence("place x, CELL y is place y, CELL x: its number", TableSentences::turnedCells);
        SentencesTest.sentence("(with WIDE 0", TableSentences::turnedWide0);
        SentencesTest.sentence("or no places: one without places)", TableSentences::turnedNoPlaces);
        SentencesTest.sentence("UNKNOWN", TableSentences::turnedUnknown);
        SentencesTest.sentence("STATE: it is not EVEN", TableSentences::turnedNotEven);
        SentencesTest.sentence("or WIDE is above 12", TableSentences::turnedAbove12);
        SentencesTest.sentence("ROOM", TableSentences::turnedRoom);
        SentencesTest.section("Promise 13: product");
        SentencesTest.sentence("The product of two of one KIND (0 to 2), new", TableSentences::productIsNew);
        SentencesTest.sentence("at x, y, over all k from 0 on, CELL k at x of the first, CELL y at k of the second", TableSentences::productCells);
        SentencesTest.sentence("BITS: whether both are 1 for some k", TableSentences::productOfBits);
        SentencesTest.sentence("NUMBERS: products added, wrapping", TableSentences::productOfNumbers);
        SentencesTest.sentence("REALS: added from 0.0 on", TableSentences::productOfReals);
        SentencesTest.sentence("UNKNOWN", TableSentences::productUnknown);
        SentencesTest.sentence("STATE: LINKS", TableSentences::productOfLinks);
        SentencesTest.sentence("unlike KINDS", TableSentences::productUnlike);
        SentencesTest.sentence("one is not EVEN", TableSentences::productNotEven);
        SentencesTest.sentence("WIDE of the first is not HIGH of the second", TableSentences::productDoesNotFit);
        SentencesTest.sentence("ROOM", TableSentences::productRoom);
    }

    private static void distancesAndWords() {
        SentencesTest.section("Promise 14: distances");
        SentencesTest.sentence("A new TABLE of NUMBERS", TableSentences::distancesIsNew);
        SentencesTest.sentence("how many steps from place x to place y, by BITS (CELL y of place x is 1: a step)", TableSentences::distancesSteps);
        SentencesTest.sentence("0 to itself", TableSentences::distancesToItself);
        SentencesTest.sentence("-1: there is no way", TableSentences::distancesNoWay);
        SentencesTest.sentence("UNKNOWN", TableSentences::distancesUnknown);
        SentencesTest.sentence("STATE: no BITS", TableSentences::distancesNoBits);
        SentencesTest.sentence("or not square", TableSentences::distancesNotSquare);
        SentencesTest.sentence("ROOM", TableSentences::distancesRoom);
        SentencesTest.section("Promise 15: pack");
        SentencesTest.sentence("BITS packed place by place, CELL by CELL, from the lowest bit of word 0 on", TableSentences::packOrder);
        SentencesTest.sentence("32 a word", TableSentences::pack32AWord);
        SentencesTest.sentence("how many words", TableSentences::packHowMany);
        SentencesTest.sentence("(the last one filled with 0)", TableSentences::packFilled);
        SentencesTest.sentence("UNKNOWN", TableSentences::packUnknown);
        SentencesTest.sentence("STATE: no BITS", TableSentences::packNoBits);
        SentencesTest.sentence("NULL", TableSentences::packNull);
        SentencesTest.section("Promise 16: word");
        SentencesTest.sentence("Word i of what was packed last.", TableSentences::wordPackedLast);
        SentencesTest.sentence("NONE", TableSentences::wordNone);
        SentencesTest.sentence("(It may be any number.)", TableSentences::wordAnyNumber);
    }

    /** A scene with one table of rows of these lengths. */
    private static NestTables only(int kind, int... lengths) {
        NestTables x = new NestTables();
        with(x, kind, lengths);
        return x;
    }

    private static NestTables two(int kind, int[] lengths, int other, int[] lengthsOfOther) {
        NestTables x = new NestTables();
        with(x, kind, lengths);
        with(x, other, lengthsOfOther);
        return x;
    }

    private static void turnedIsNew() {
        NestTables x = new NestTables();
        evenOfOneRow(x, NUMBERS, 3, 2);
        due("turned", x.turned(0), 1);
        due("rows", x.count(1), 1 + 2);
        due("its rows are two", x.same(1, 0, 1, 1), 0);
        due("they are not the old one", x.same(1, 0, 0, 0), 0);
        x.put(1, 0, 0, 5);
        due("the old one stays", x.get(0, 0, 0), 0);
        due("the other new one stays", x.get(1, 1, 0), 0);
        x.put(0, 0, 1, 6);
        due("the new one stays", x.get(1, 1, 0), 0);
        due("turned back", x.turned(1), 2);
        due("its rows are three", x.same(2, 0, 2, 1) + x.same(2, 1, 2, 2) + x.same(2, 0, 2, 2), 0);
        due("no place is fallen", x.count(2), 0);
    }

    private static void turnedCells() {
        NestTables x = new NestTables();
        filled(x, BITS, cells(1, 0, 0), cells(1, 1, 0));
        holds("bits", x, x.turned(0), BITS, cells(1, 1), cells(0, 1), cells(0, 0));
        int numbers = filled(x, NUMBERS, cells(1, 2, 3), cells(4, 5, LEAST));
        due("its number", x.turned(numbers), 3);
        holds("numbers", x, 3, NUMBERS, cells(1, 4), cells(2, 5), cells(3, LEAST));
        holds("one cell", x, x.turned(filled(x, NUMBERS, cells(8))), NUMBERS, cells(8));
        int reals = filled(x, REALS, cells(1500, 2500));
        due("reals", x.turned(reals), 7);
        dueReal("real 0", x.real(7, 0, 0), 1.5);
        dueReal("real 1", x.real(7, 1, 0), 2.5);
        int links = filled(x, LINKS, cells(0, NONE), cells(8, 2));
        holds("links", x, x.turned(links), LINKS, cells(0, 8), cells(NONE, 2));
        due("turned twice", x.alike(x.turned(3), numbers), 1);
        turnedGreatest();
        turnedNoNumber();
    }

    private static void turnedGreatest() {
        NestTables x = new NestTables();
        with(x, NUMBERS, 12, 12, 12, 12, 12, 12, 12, 12, 12, 12, 12, 12);
        x.put(0, 11, 0, 5);
        x.put(0, 3, 11, 6);
        due("twelve by twelve", x.turned(0), 1);
        due("its first row's last cell", x.get(1, 0, 11), 5);
        due("its last row", x.get(1, 11, 3), 6);
        due("nothing else", x.total(1), 11);
        due("one by twelve", x.turned(with(x, BITS, 12)), 3);
        due("one by twelve: places", x.told(3, 0, 1), 12);
        due("one by twelve: cells", x.told(3, 11, 2), 1);
        due("twelve by one", x.turned(3), 4);
        due("twelve by one: cells", x.told(4, 0, 2), 12);
    }

    private static void turnedNoNumber() {
        NestTables x = new NestTables();
        int none = noNumber(x);
        int pair = filled(x, REALS, cells(1000, 0));
        x.copy(none, 0, 0, pair, 0, 1, 1);
        int turned = x.turned(pair);
        due("what is no number is turned, too", x.alike(turned, turned), 0);
        dueReal("the number beside it", x.real(turned, 0, 0), 1.0);
        x.put(turned, 1, 0, 0);
        due("it was the second", x.alike(turned, turned), 1);
    }

    private static void turnedWide0() {
        for (int kind = BITS; kind <= LINKS; kind++) {
            NestTables x = new NestTables();
            holds("one row without cells", x, x.turned(with(x, kind, 0)), kind);
            holds("twelve rows without cells", x, x.turned(evenOfOneRow(x, kind, 12, 0)), kind);
            due("its places", x.row(3, 0, 0), INDEX);
            holds("one cell", x, x.turned(filled(x, kind, cells(0))), kind, cells(0));
        }
    }

    private static void turnedNoPlaces() {
        for (int kind = BITS; kind <= LINKS; kind++) {
            NestTables x = new NestTables();
            due("its number", x.turned(with(x, kind)), 1);
            holds("no places", x, 1, kind);
            due("it is another one", x.count(0), 2);
        }
    }

    private static void turnedUnknown() {
        for (int t : unknownInUse()) {
            refused("turned(" + t + ")", Checks::inUse, x -> x.turned(t), UNKNOWN);
        }
        for (int t : cells(-1, 16)) {
            refused("turned(" + t + "), ahead of ROOM", Checks::full, x -> x.turned(t), UNKNOWN);
        }
        due("turned of the last one", inUse().turned(IN_USE - 1), IN_USE);
    }

    private static void turnedNotEven() {
        due("even", only(NUMBERS, 2, 2, 2).turned(0), 1);
        refused("the first fallen", () -> only(NUMBERS, FALLEN, 2, 2), x -> x.turned(0), STATE);
        refused("the last fallen", () -> only(NUMBERS, 2, 2, FALLEN), x -> x.turned(0), STATE);
        refused("the only one fallen", () -> only(NUMBERS, FALLEN), x -> x.turned(0), STATE);
        refused("fallen beside no cells", () -> only(NUMBERS, FALLEN, 0), x -> x.turned(0), STATE);
        refused("no cells beside fallen", () -> only(NUMBERS, 0, FALLEN), x -> x.turned(0), STATE);
        refused("the last longer", () -> only(NUMBERS, 2, 2, 3), x -> x.turned(0), STATE);
        refused("the last shorter", () -> only(NUMBERS, 2, 2, 1), x -> x.turned(0), STATE);
        refused("the first longer", () -> only(NUMBERS, 3, 2, 2), x -> x.turned(0), STATE);
        refused("the first without cells", () -> only(NUMBERS, 0, 2, 2), x -> x.turned(0), STATE);
        refused("not even, ahead of ROOM", Checks::full, x -> x.turned(REALS), STATE);
    }

    private static void turnedAbove12() {
        for (int kind = BITS; kind <= LINKS; kind++) {
            int of = kind;
            due("12 wide", only(of, 12, 12).turned(0), 1);
            refused("13 wide", () -> only(of, 13, 13), x -> x.turned(0), STATE);
            refused("16 wide", () -> only(of, 16), x -> x.turned(0), STATE);
        }
        NestTables x = full();
        x.row(4, 0, 13);
        due("13 wide, ahead of ROOM", x.turned(4), STATE);
        x.row(4, 0, 12);
        due("12 wide, without ROOM", x.turned(4), ROOM);
    }

    private static void turnedRoom() {
        for (int t = 5; t <= 8; t++) {
            int square = t;
            due("the sixteenth, of " + t, almostFull().turned(t), 15);
            refused("a seventeenth, of " + t, Checks::full, x -> x.turned(square), ROOM);
        }
        refused("a seventeenth without places", Checks::full, x -> x.turned(15), ROOM);
    }

    private static void productIsNew() {
        for (int kind = BITS; kind <= REALS; kind++) {
            NestTables x = new NestTables();
            evenOfOneRow(x, kind, 2, 2);
            due("of itself", x.product(0, 0), 1);
            due("its kind", x.told(1, 0, 0), kind);
            due("rows", x.count(1), 1 + 2);
            due("its rows are two", x.same(1, 0, 1, 1), 0);
            x.put(1, 0, 0, 5000);
            due("the old one stays", x.get(0, 0, 0), 0);
            due("the next number", x.product(1, 0), 2);
        }
    }

    private static void productCells() {
        NestTables x = new NestTables();
        int a = filled(x, NUMBERS, cells(1, 2, 3), cells(4, 5, 6));
        int b = filled(x, NUMBERS, cells(1, 0), cells(0, 1), cells(2, 3));
        holds("two by two", x, x.product(a, b), NUMBERS, cells(7, 11), cells(16, 23));
        holds("three by three", x, x.product(b, a), NUMBERS, cells(1, 2, 3), cells(4, 5, 6), cells(14, 19, 24));
        int tall = evenOfOneRow(x, NUMBERS, 12, 12);
        x.row(tall, 11, 12);
        int wide = evenOfOneRow(x, NUMBERS, 12, 16);
        x.row(wide, 11, 16);
        x.put(tall, 11, 11, 3);
        x.put(tall, 11, 0, 5);
        x.put(wide, 0, 15, 100);
        x.put(wide, 11, 15, -4);
        int greatest = x.product(tall, wide);
        due("greatest: its last cell", x.get(greatest, 11, 15), 5 * 100 - 3 * 4);
        due("greatest: nothing else", x.total(greatest), 5 * 100 - 3 * 4);
        due("greatest: places", x.told(greatest, 0, 1), 12);
        due("greatest: cells", x.told(greatest, 0, 2), 16);
    }

    private static void productOfBits() {
        NestTables x = new NestTables();
        int bits = filled(x, BITS, cells(1, 0, 0), cells(0, 0, 1), cells(1, 1, 1), cells(0, 0, 0), cells(0, 1, 0));
        int first = filled(x, BITS, cells(1), cells(0), cells(0));
        int last = filled(x, BITS, cells(0), cells(0), cells(1));
        int both = filled(x, BITS, cells(1), cells(0), cells(1));
        holds("for the first k", x, x.product(bits, first), BITS, cells(1), cells(0), cells(1), cells(0), cells(0));
        holds("for the last k", x, x.product(bits, last), BITS, cells(0), cells(1), cells(1), cells(0), cells(0));
        holds("for some k, twice is still 1", x, x.product(bits, both), BITS, cells(1), cells(1), cells(1), cells(0), cells(0));
        int none = with(x, BITS);
        holds("for no k", x, x.product(with(x, BITS, 0, 0), none), BITS, cells(), cells());
    }

    private static void productOfNumbers() {
        NestTables x = new NestTables();
        int row = filled(x, NUMBERS, cells(MOST, 1));
        holds("a sum that wraps", x, x.product(row, filled(x, NUMBERS, cells(1), cells(1))), NUMBERS, cells(LEAST));
        holds("a sum just below", x, x.product(row, filled(x, NUMBERS, cells(1), cells(0))), NUMBERS, cells(MOST));
        holds("a product that wraps", x, x.product(row, filled(x, NUMBERS, cells(2), cells(0))), NUMBERS, cells(-2));
        holds("the greatest by itself", x, x.product(row, filled(x, NUMBERS, cells(MOST), cells(0))), NUMBERS, cells(1));
        int least = filled(x, NUMBERS, cells(LEAST));
        holds("the least by -1", x, x.product(least, filled(x, NUMBERS, cells(-1))), NUMBERS, cells(LEAST));
        holds("the least by 2", x, x.product(least, filled(x, NUMBERS, cells(2))), NUMBERS, cells(0));
        due("all that was made", x.count(0), 14);
    }

    private static void productOfReals() {
        NestTables x = new NestTables();
        int ones = filled(x, REALS, cells(1000, 1000, 1000));
        int up = x.product(ones, filled(x, REALS, cells(100), cells(200), cells(300)));
        dueReal("added in this order", x.real(up, 0, 0), 0.1 + 0.2 + 0.3);
        int down = x.product(ones, filled(x, REALS, cells(300), cells(200), cells(100)));
        dueReal("added in the other order", x.real(down, 0, 0), 0.3 + 0.2 + 0.1);
        int minus = filled(x, REALS, cells(-1000));
        dueReal("-1 by 0, from 0.0 on", x.real(x.product(minus, with(x, REALS, 1)), 0, 0), 0.0);
        int none = x.product(with(x, REALS, 0), with(x, REALS));
        due("over no k: cells", x.told(none, 0, 2), 0);
        due("all that was made", x.count(0), 11);
        productWithoutEnd();
        productNoNumber();
        productWithTheGreatest();
    }

    private static void productWithoutEnd() {
        NestTables x = new NestTables();
        int power = filled(x, REALS, cells(MOST));
        double due = MOST / 1000.0;
        for (int k = 0; k < 6; k++) {
            power = x.product(power, power);
            due = 0.0 + due * due;
            dueReal("power " + k, x.real(power, 0, 0), due);
        }
        dueReal("beyond the doubles", x.real(power, 0, 0), Double.POSITIVE_INFINITY);
        due("it is a number", x.alike(power, power), 1);
        int pair = with(x, REALS, 2);
        x.copy(power, 0, 0, pair, 0, 0, 1);
        x.copy(power, 0, 0, pair, 0, 1, 1);
        int sum = x.product(pair, filled(x, REALS, cells(1000), cells(2000)));
        dueReal("both without end", x.real(sum, 0, 0), Double.POSITIVE_INFINITY);
        int below = x.product(pair, filled(x, REALS, cells(-1000), cells(-1)));
        dueReal("both without end, below", x.real(below, 0, 0), Double.NEGATIVE_INFINITY);
    }

    private static void productNoNumber() {
        NestTables x = new NestTables();
        int endless = endless(x);
        int zero = with(x, REALS, 1);
        int none = x.product(endless, zero);
        due("without end by 0", x.alike(none, none), 0);
        int turned = x.product(zero, endless);
        due("0 by what is without end", x.alike(turned, turned), 0);
        int times = x.product(none, zero);
        due("no number by 0", x.alike(times, times), 0);
        times = x.product(zero, none);
        due("0 by no number", x.alike(times, times), 0);
        int pair = with(x, REALS, 2);
        x.copy(endless, 0, 0, pair, 0, 0, 1);
        x.copy(endless, 0, 0, pair, 0, 1, 1);
        int signs = filled(x, REALS, cells(1000), cells(-1000));
        int opposite = x.product(pair, signs);
        due("without end less without end", x.alike(opposite, opposite), 0);
        dueReal("without end less without end, real", x.real(opposite, 0, 0), 0.0);
        due("without end less without end, cut", x.get(opposite, 0, 0), 0);
        x.put(pair, 0, 1, 1000);
        int sum = x.product(pair, signs);
        dueReal("without end less 1", x.real(sum, 0, 0), Double.POSITIVE_INFINITY);
        due("all sixteen tables", x.count(0), 16);
    }

    /** The greatest double and the least are not yet without end: by 0, and added to one another, they stay numbers. */
    private static void productWithTheGreatest() {
        NestTables x = new NestTables();
        int ends = greatestAndLeast(x);
        dueReal("the greatest", x.real(ends, 0, 0), Double.MAX_VALUE);
        dueReal("the least", x.real(ends, 1, 0), -Double.MAX_VALUE);
        due("the greatest, cut", x.get(ends, 0, 0), MOST);
        due("the least, cut", x.get(ends, 1, 0), LEAST);
        // only one table is left, so a table that was made on the way holds the 0
        int zero = 1;
        x.put(zero, 0, 0, 0);
        int byZero = x.product(ends, zero);
        due("the greatest and the least by 0 are numbers", x.alike(byZero, byZero), 1);
        dueReal("0 by the greatest and by the least", timesTheEnds(0, 0), 0.0);
        dueReal("the greatest and the least added", timesTheEnds(1000, 1000), 0.0);
        dueReal("twice the greatest", timesTheEnds(2000, 0), Double.POSITIVE_INFINITY);
        dueReal("twice the least", timesTheEnds(0, 2000), Double.NEGATIVE_INFINITY);
    }

    /** So many thousandths of the greatest double and of the least, added; it is due to be a number. */
    private static double timesTheEnds(int ofTheGreatest, int ofTheLeast) {
        NestTables x = new NestTables();
        int ends = greatestAndLeast(x);
        // the one table on the way with a row of two cells
        int pair = 3;
        x.put(pair, 0, 0, ofTheGreatest);
        x.put(pair, 0, 1, ofTheLeast);
        int sum = x.product(pair, ends);
        due("a number", x.alike(sum, sum), 1);
        return x.real(sum, 0, 0);
    }

    private static void productUnknown() {
        for (int t : unknownInUse()) {
            refused("product(" + t + ", 4)", Checks::inUse, x -> x.product(t, 4), UNKNOWN);
            refused("product(4, " + t + ")", Checks::inUse, x -> x.product(4, t), UNKNOWN);
            refused("product(3, " + t + "), ahead of STATE", Checks::inUse, x -> x.product(LINKS, t), UNKNOWN);
        }
        refused("the first, ahead of ROOM", Checks::full, x -> x.product(16, 6), UNKNOWN);
        refused("the second, ahead of ROOM", Checks::full, x -> x.product(6, 16), UNKNOWN);
        due("the last one", almostFull().product(14, 14), 15);
    }

    private static void productOfLinks() {
        refused("links by links", () -> two(LINKS, cells(1), LINKS, cells(1)), x -> x.product(0, 1), STATE);
        refused("links without places", () -> only(LINKS), x -> x.product(0, 0), STATE);
        refused("links, ahead of ROOM", Checks::full, x -> x.product(8, 8), STATE);
        for (int kind = BITS; kind <= REALS; kind++) {
            due("kind " + kind, two(kind, cells(1), kind, cells(1)).product(0, 1), 2);
        }
    }

    private static void productUnlike() {
        for (int kind = BITS; kind <= LINKS; kind++) {
            for (int other = BITS; other <= LINKS; other++) {
                int one = kind;
                int two = other;
                if (kind != other) {
                    refused(one + " by " + two, () -> two(one, cells(1), two, cells(1)), x -> x.product(0, 1), STATE);
                    refused(one + " by " + two + ", no places", () -> two(one, cells(), two, cells()), x -> x.product(0, 1), STATE);
                }
            }
        }
        refused("unlike kinds, ahead of ROOM", Checks::full, x -> x.product(5, 6), STATE);
    }

    private static void productNotEven() {
        due("both even", two(NUMBERS, cells(2, 2), NUMBERS, cells(3, 3)).product(0, 1), 2);
        refused("the first fallen at the end", () -> two(NUMBERS, cells(2, FALLEN), NUMBERS, cells(3, 3)), x -> x.product(0, 1), STATE);
        refused("the first fallen at 0", () -> two(NUMBERS, cells(FALLEN, 2), NUMBERS, cells(3, 3)), x -> x.product(0, 1), STATE);
        refused("the first ragged", () -> two(NUMBERS, cells(2, 3), NUMBERS, cells(3, 3)), x -> x.product(0, 1), STATE);
        refused("the first ragged at 0", () -> two(NUMBERS, cells(1, 2), NUMBERS, cells(3)), x -> x.product(0, 1), STATE);
        refused("the second fallen at the end", () -> two(NUMBERS, cells(2, 2), NUMBERS, cells(3, FALLEN)), x -> x.product(0, 1), STATE);
        refused("the second fallen at 0", () -> two(NUMBERS, cells(2, 2), NUMBERS, cells(FALLEN, 3)), x -> x.product(0, 1), STATE);
        refused("the second ragged", () -> two(NUMBERS, cells(2, 2), NUMBERS, cells(3, 2)), x -> x.product(0, 1), STATE);
        refused("the first all fallen, the second without places",
            () -> two(NUMBERS, cells(FALLEN, FALLEN), NUMBERS, cells()), x -> x.product(0, 1), STATE);
        refused("the second all fallen", () -> two(NUMBERS, cells(1), NUMBERS, cells(FALLEN)), x -> x.product(0, 1), STATE);
        refused("not even, ahead of ROOM", Checks::full, x -> x.product(6, NUMBERS), STATE);
    }

    private static void productDoesNotFit() {
        for (int wide : cells(0, 1, 2, 3, 4, 12, 13)) {
            int[] lengths = cells(wide, wide);
            if (wide == 3) {
                due("3 wide by 3 high", two(NUMBERS, lengths, NUMBERS, cells(2, 2, 2)).product(0, 1), 2);
            } else {
                refused(wide + " wide by 3 high", () -> two(NUMBERS, lengths, NUMBERS, cells(2, 2, 2)), x -> x.product(0, 1), STATE);
            }
        }
        due("0 wide by no places", two(NUMBERS, cells(0, 0), NUMBERS, cells()).product(0, 1), 2);
        due("no places by no places", two(NUMBERS, cells(), NUMBERS, cells()).product(0, 1), 2);
        refused("1 wide by no places", () -> two(NUMBERS, cells(1), NUMBERS, cells()), x -> x.product(0, 1), STATE);
        refused("no places by 1 high", () -> two(NUMBERS, cells(), NUMBERS, cells(0)), x -> x.product(0, 1), STATE);
        NestTables x = new NestTables();
        evenOfOneRow(x, BITS, 1, 12);
        evenOfOneRow(x, BITS, 12, 1);
        due("12 wide by 12 high", x.product(0, 1), 2);
        due("1 wide by 1 high", x.product(1, 0), 3);
        NestTables y = full();
        y.row(4, 0, 3);
        due("that does not fit, ahead of ROOM", y.product(4, 6), STATE);
    }

    private static void productRoom() {
        for (int t = 5; t <= 7; t++) {
            int square = t;
            due("the sixteenth, of " + t, almostFull().product(t, t), 15);
            refused("a seventeenth, of " + t, Checks::full, x -> x.product(square, square), ROOM);
        }
        refused("a seventeenth without places", Checks::full, x -> x.product(14, 15), ROOM);
    }

    private static void distancesIsNew() {
        NestTables x = new NestTables();
        evenOfOneRow(x, BITS, 2, 2);
        due("its number", x.distances(0), 1);
        due("its kind", x.told(1, 0, 0), NUMBERS);
        due("rows", x.count(1), 1 + 2);
        due("its rows are two", x.same(1, 0, 1, 1), 0);
        x.put(0, 0, 0, 1);
        holds("it stays", x, 1, NUMBERS, cells(0, -1), cells(-1, 0));
        due("no places", x.distances(with(x, BITS)), 3);
        holds("no places", x, 3, NUMBERS);
    }

    private static void distancesSteps() {
        NestTables x = new NestTables();
        filled(x, BITS, cells(0, 1, 0, 0), cells(0, 0, 1, 0), cells(1, 0, 1, 0), cells(1, 0, 0, 1));
        holds("steps", x, x.distances(0), NUMBERS, cells(0, 1, 2, -1), cells(2, 0, 1, -1), cells(1, 2, 0, -1), cells(1, 2, 3, 0));
        filled(x, BITS, cells(0, 1, 1), cells(0, 0, 1), cells(0, 0, 0));
        holds("the shorter way", x, x.distances(2), NUMBERS, cells(0, 1, 1), cells(-1, 0, 1), cells(-1, -1, 0));
        evenOfOneRow(x, BITS, 2, 2);
        x.put(4, 0, 1, 1);
        holds("one row at both places", x, x.distances(4), NUMBERS, cells(0, 1), cells(-1, 0));
        x.clear();
        with(x, BITS, 12, 12, 12, 12, 12, 12, 12, 12, 12, 12, 12, 12);
        for (int i = 0; i < 12; i++) {
            x.put(0, i, (i + 5) % 12, 1);
        }
        x.distances(0);
        for (int from : cells(0, 3, 11)) {
            for (int steps = 0; steps < 12; steps++) {
                due("eleven steps at most, from " + from, x.get(1, from, (from + 5 * steps) % 12), steps);
            }
        }
    }

    private static void distancesToItself() {
        NestTables x = new NestTables();
        holds("without a step", x, x.distances(with(x, BITS, 1)), NUMBERS, cells(0));
        holds("with a step to itself", x, x.distances(filled(x, BITS, cells(1))), NUMBERS, cells(0));
        filled(x, BITS, cells(1, 1), cells(1, 1));
        holds("with all steps", x, x.distances(4), NUMBERS, cells(0, 1), cells(1, 0));
        filled(x, BITS, cells(0, 1), cells(1, 0));
        holds("round and back", x, x.distances(6), NUMBERS, cells(0, 1), cells(1, 0));
    }

    private static void distancesNoWay() {
        NestTables x = new NestTables();
        holds("no steps", x, x.distances(with(x, BITS, 3, 3, 3)), NUMBERS, cells(0, -1, -1), cells(-1, 0, -1), cells(-1, -1, 0));
        filled(x, BITS, cells(0, 1, 0), cells(0, 0, 0), cells(0, 1, 0));
        holds("one way only", x, x.distances(2), NUMBERS, cells(0, 1, -1), cells(-1, 0, -1), cells(-1, 1, 0));
    }

    private static void distancesUnknown() {
        for (int t : unknownInUse()) {
            refused("distances(" + t + ")", Checks::inUse, x -> x.distances(t), UNKNOWN);
        }
        refused("ahead of ROOM", Checks::full, x -> x.distances(16), UNKNOWN);
        due("the last one", almostFull().distances(14), 15);
    }

    private static void distancesNoBits() {
        for (int kind = NUMBERS; kind <= LINKS; kind++) {
            int of = kind;
            refused("a square of kind " + of, () -> only(of, 1), x -> x.distances(0), STATE);
            refused("no places of kind " + of, () -> only(of), x -> x.distances(0), STATE);
            refused("kind " + of + ", ahead of ROOM", Checks::full, x -> x.distances(5 + of), STATE);
        }
        due("a square of bits", only(BITS, 1).distances(0), 1);
        due("no places of bits", only(BITS).distances(0), 1);
    }

    private static void distancesNotSquare() {
        due("square", only(BITS, 2, 2).distances(0), 1);
        refused("too wide", () -> only(BITS, 3, 3), x -> x.distances(0), STATE);
        refused("too high", () -> only(BITS, 1, 1), x -> x.distances(0), STATE);
        refused("ragged at the end", () -> only(BITS, 2, 1), x -> x.distances(0), STATE);
        refused("ragged at the end, longer", () -> only(BITS, 2, 3), x -> x.distances(0), STATE);
        refused("fallen at the end", () -> only(BITS, 2, FALLEN), x -> x.distances(0), STATE);
        refused("fallen at 0", () -> only(BITS, FALLEN, 2), x -> x.distances(0), STATE);
        refused("one place without cells", () -> only(BITS, 0), x -> x.distances(0), STATE);
        refused("not square, ahead of ROOM", Checks::full, x -> x.distances(BITS), STATE);
    }

    private static void distancesRoom() {
        due("the sixteenth", almostFull().distances(5), 15);
        refused("a seventeenth", Checks::full, x -> x.distances(5), ROOM);
        refused("a seventeenth without places", Checks::full, x -> x.distances(15), ROOM);
    }

    private static void packOrder() {
        NestTables x = new NestTables();
        filled(x, BITS, cells(1, 0, 1), cells(), cells(0, 1, 1, 0, 1));
        due("ragged", x.pack(0), 1);
        due("ragged: word 0", x.word(0), 0b10110101);
        x.clear();
        with(x, BITS, 2, 1);
        x.put(0, 0, 0, 1);
        x.pack(0);
        due("the first cell is the lowest bit", x.word(0), 1);
        x.share(0, 1, 0, 0);
        x.pack(0);
        due("a row at two places is packed twice", x.word(0), 0b0101);
    }

    /** Three rows of 16 cells with just this one bit set, packed. */
    private static NestTables packedBit(int bit) {
        NestTables x = new NestTables();
        with(x, BITS, 16, 16, 16);
        x.put(0, bit / 16, bit % 16, 1);
        x.pack(0);
        return x;
    }

    private static void pack32AWord() {
        due("bit 0", packedBit(0).word(0), 1);
        due("bit 15", packedBit(15).word(0), 1 << 15);
        due("bit 16", packedBit(16).word(0), 1 << 16);
        due("bit 30", packedBit(30).word(0), 1 << 30);
        due("bit 31", packedBit(31).word(0), LEAST);
        due("bit 31 is not in word 1", packedBit(31).word(1), 0);
        due("bit 32", packedBit(32).word(1), 1);
        due("bit 32 is not in word 0", packedBit(32).word(0), 0);
        due("bit 47", packedBit(47).word(1), 1 << 15);
        NestTables x = new NestTables();
        with(x, BITS, 16, 5, 16);
        x.put(0, 2, 10, 1);
        x.put(0, 2, 11, 1);
        x.pack(0);
        due("a row across two words: bit 31", x.word(0), LEAST);
        due("a row across two words: bit 32", x.word(1), 1);
    }

    private static void packHowMany() {
        int[][] lengths = {{}, {0}, {0, 0, 0}, {1}, {16, 15}, {16, 16}, {16, 16, 1}, {16, 16, 16, 16}, {16, 16, 16, 16, 1}};
        int[] words = {0, 0, 0, 1, 1, 1, 2, 2, 3};
        for (int k = 0; k < words.length; k++) {
            NestTables x = new NestTables();
            due("case " + k, x.pack(with(x, BITS, lengths[k])), words[k]);
            due("case " + k + ", beyond", x.word(words[k]), NONE);
            due("case " + k + ", the last", x.word(words[k] - 1), words[k] == 0 ? NONE : 0);
        }
        NestTables y = new NestTables();
        evenOfOneRow(y, BITS, 12, 16);
        y.row(0, 11, 16);
        y.put(0, 11, 15, 1);
        due("the most", y.pack(0), 6);
        due("the most: the last bit", y.word(5), LEAST);
        due("the most: beyond", y.word(6), NONE);
    }

    /** What was packed ahead of it was all 1: none of that is left. */
    private static void packFilled() {
        NestTables x = new NestTables();
        evenOfOneRow(x, BITS, 12, 16);
        for (int j = 0; j < 16; j++) {
            x.put(0, 0, j, 1);
        }
        x.pack(0);
        for (int i = 0; i < 6; i++) {
            due("all 1: word " + i, x.word(i), -1);
        }
        with(x, BITS, 16, 16, 1);
        x.put(1, 2, 0, 1);
        due("33 bits", x.pack(1), 2);
        due("33 bits: word 0", x.word(0), 0);
        due("33 bits: word 1", x.word(1), 1);
        due("33 bits: word 2", x.word(2), NONE);
        x.put(1, 2, 0, 0);
        x.pack(1);
        due("33 bits of 0: word 1", x.word(1), 0);
    }

    private static void packUnknown() {
        for (int t : unknownInUse()) {
            refused("pack(" + t + ")", Checks::inUse, x -> x.pack(t), UNKNOWN);
        }
        due("the last one", full().pack(15), 0);
    }

    private static void packNoBits() {
        for (int kind = NUMBERS; kind <= LINKS; kind++) {
            int of = kind;
            refused("kind " + of + ", ahead of NULL", Checks::inUse, x -> x.pack(of), STATE);
            refused("a square of kind " + of, Checks::full, x -> x.pack(5 + of), STATE);
            refused("no places of kind " + of, () -> only(of), x -> x.pack(0), STATE);
        }
        due("a square of bits", full().pack(5), 1);
    }

    private static void packNull() {
        refused("the last fallen", Checks::inUse, x -> x.pack(BITS), NULL);
        refused("the only one fallen", () -> only(BITS, FALLEN), x -> x.pack(0), NULL);
        refused("the first fallen", TableSentences::packedThenFallen, x -> x.pack(0), NULL);
        NestTables x = packedThenFallen();
        due("the words of before", x.pack(0) - NULL + x.word(0), 7);
        x.row(0, 0, 1);
        due("no more fallen", x.pack(0), 1);
        due("no more fallen: word 0", x.word(0), 6);
    }

    private static NestTables packedThenFallen() {
        NestTables x = new NestTables();
        filled(x, BITS, cells(1), cells(1, 1));
        x.pack(0);
        x.fall(0, 0);
        return x;
    }

    private static void wordPackedLast() {
        NestTables x = inUse();
        due("packed long ago", x.word(0), 0b10101);
        x.put(BITS, 0, 0, 0);
        due("it stays when a bit changes", x.word(0), 0b10101);
        x.row(BITS, 2, 0);
        x.pack(BITS);
        due("packed anew", x.word(0), 0b10100);
        x.pack(filled(x, BITS, cells(1)));
        due("of another table", x.word(0), 1);
        x.pack(LINKS);
        x.pack(16);
        due("refused: as it was", x.word(0), 1);
    }

    private static void wordNone() {
        for (int i : cells(-1, 1, 2, 5, 6, 32, LEAST, MOST)) {
            refused("word(" + i + ") of one", Checks::inUse, x -> x.word(i), NONE);
            refused("word(" + i + ") of none", NestTables::new, x -> x.word(i), NONE);
        }
        refused("word(0), nothing packed yet", NestTables::new, x -> x.word(0), NONE);
        NestTables x = inUse();
        due("packed nothing", x.pack(with(x, BITS)), 0);
        due("word(0) of nothing", x.word(0), NONE);
        evenOfOneRow(x, BITS, 12, 16);
        x.pack(6);
        due("the last of six", x.word(5), 0);
        due("beyond six", x.word(6), NONE);
        due("ahead of six", x.word(-1), NONE);
    }

    /** A word may look like a code: bits of NONE, of INDEX and of -1. */
    private static void wordAnyNumber() {
        for (int number : cells(NONE, INDEX, UNKNOWN, -1, LEAST, MOST, 0)) {
            NestTables x = new NestTables();
            with(x, BITS, 16, 16);
            for (int bit = 0; bit < 32; bit++) {
                x.put(0, bit / 16, bit % 16, number >>> bit & 1);
            }
            due("pack", x.pack(0), 1);
            due("word", x.word(0), number);
            due("no call has failed", x.count(3), 0);
        }
    }
}
