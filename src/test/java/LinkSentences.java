/** Promises 19 to 23: totals and depths through links, what is counted, and clear. */
final class LinkSentences extends Checks {
    /** What total(0) answers of entering(1000): 62 hubs with 15 leaves each, and 7 leaves more. */
    static final int LEAVES_OF_1000 = 62 * 15 + 7;

    private static final int HUB = 1, LEAF = 2;

    private LinkSentences() {
    }

    static void all() {
        totals();
        deepAndCounted();
    }

    private static void totals() {
        SentencesTest.section("Promise 19: total");
        SentencesTest.sentence("The total: all CELLS, place by place", LinkSentences::totalOfAll);
        SentencesTest.sentence("bits that are 1", LinkSentences::totalOfBits);
        SentencesTest.sentence("numbers", LinkSentences::totalOfNumbers);
        SentencesTest.sentence("reals cut each", LinkSentences::totalOfReals);
        SentencesTest.sentence("for LINKS the totals of their TABLES", LinkSentences::totalOfLinks);
        SentencesTest.sentence("added, wrapping", LinkSentences::totalWraps);
        SentencesTest.sentence("What comes first in this order", LinkSentences::totalWhatComesFirst);
        SentencesTest.sentence("NULL: a place is FALLEN", LinkSentences::totalNull);
        SentencesTest.sentence("here or in a TABLE linked", LinkSentences::totalNullWhereLinked);
        SentencesTest.sentence("RING: a LINK to a TABLE whose total is just being found", LinkSentences::totalRing);
        SentencesTest.sentence("SPENT: the 1001st TABLE would be entered", LinkSentences::totalSpent);
        SentencesTest.sentence("UNKNOWN", LinkSentences::totalUnknown);
        SentencesTest.sentence("(It may be any number.)", LinkSentences::totalAnyNumber);
        SentencesTest.section("Promise 20: entered");
        SentencesTest.sentence("How many TABLES were entered by the latest total()", LinkSentences::enteredLatest);
        SentencesTest.sentence("the first one", LinkSentences::enteredFirstOne);
        SentencesTest.sentence("and those that FAILED, too", LinkSentences::enteredFailed);
        SentencesTest.sentence("(each as often as it was)", LinkSentences::enteredAsOften);
        SentencesTest.sentence("0 at first", LinkSentences::enteredAtFirst);
    }

    private static void deepAndCounted() {
        SentencesTest.section("Promise 21: deep");
        SentencesTest.sentence("How deep LINKS go: 0 of other KINDS", LinkSentences::deepOfOtherKinds);
        SentencesTest.sentence("else 1 and the deepest of those that are linked", LinkSentences::deepest);
        SentencesTest.sentence("(0 without)", LinkSentences::deepWithout);
        SentencesTest.sentence("RING", LinkSentences::deepRing);
        SentencesTest.sentence("UNKNOWN", LinkSentences::deepUnknown);
        SentencesTest.sentence("(FALLEN places are left out.)", LinkSentences::deepFallen);
        SentencesTest.section("Promise 22: count");
        SentencesTest.sentence("TABLES (what = 0)", LinkSentences::countTables);
        SentencesTest.sentence("ROWS that stand somewhere, each once (1)", LinkSentences::countRows);
        SentencesTest.sentence("FALLEN places (2)", LinkSentences::countFallen);
        SentencesTest.sentence("calls that FAILED since the beginning (3)", LinkSentences::countFailed);
        SentencesTest.sentence("OUTSIDE", LinkSentences::countOutside);
        SentencesTest.section("Promise 23: clear");
        SentencesTest.sentence("All is as at the beginning", LinkSentences::clearAll);
        SentencesTest.sentence("how many TABLES there were", LinkSentences::clearHowMany);
    }

    /** Tables 0 and 1 link to one another, 2 links to 0. */
    static NestTables ring() {
        NestTables x = new NestTables();
        filled(x, LINKS, cells(NONE));
        filled(x, LINKS, cells(0));
        filled(x, LINKS, cells(0));
        x.put(0, 0, 0, 1);
        return x;
    }

    /**
     * From table 0 a total enters just so many tables, itself with them: hubs with 15 links to a leaf each, and leaves.
     * At its last places there is room for more: rows with one cell that links to none.
     */
    static NestTables entering(int tables) {
        NestTables x = new NestTables();
        x.table(LINKS, 12);
        x.table(LINKS, 1);
        filled(x, NUMBERS, cells(1));
        rowOfLinks(x, HUB, 0, 15, LEAF);
        int hubs = (tables - 1) / 16;
        int place = 0;
        while (hubs > 0) {
            int many = Math.min(hubs, 16);
            if (place > 0 && many == 16) {
                x.share(0, place, 0, place - 1);
            } else {
                rowOfLinks(x, 0, place, many, HUB);
            }
            hubs -= many;
            place++;
        }
        rowOfLinks(x, 0, place, (tables - 1) % 16, LEAF);
        for (int i = place + 1; i < 12; i++) {
            x.row(0, i, 1);
        }
        return x;
    }

    private static void rowOfLinks(NestTables x, int t, int i, int many, int link) {
        x.row(t, i, many);
        if (many == 0) {
            return;
        }
        x.put(t, i, 0, link);
        for (int done = 1; done < many; done *= 2) {
            x.copy(t, i, 0, t, i, done, Math.min(done, many - done));
        }
    }

    private static void totalOfAll() {
        NestTables x = new NestTables();
        due("ragged", x.total(filled(x, NUMBERS, cells(1, 20), cells(), cells(300))), 321);
        due("no places", x.total(with(x, LINKS)), 0);
        due("no cells", x.total(with(x, LINKS, 0, 0)), 0);
        int most = evenOfOneRow(x, NUMBERS, 12, 16);
        x.put(most, 0, 15, 1);
        x.row(most, 11, 16);
        x.put(most, 11, 15, 100);
        due("twelve of sixteen, one row at eleven places", x.total(most), 11 + 100);
        due("no call failed", x.count(3), 0);
    }

    private static void totalOfBits() {
        NestTables x = new NestTables();
        due("bits", x.total(filled(x, BITS, cells(1, 0, 1), cells(-1), cells(0, MOST))), 4);
        int all = evenOfOneRow(x, BITS, 12, 16);
        due("none of 192", x.total(all), 0);
        for (int j = 0; j < 16; j++) {
            x.put(all, 0, j, 1);
        }
        due("all of 192", x.total(all), 192);
    }

    private static void totalOfNumbers() {
        NestTables x = new NestTables();
        due("numbers", x.total(filled(x, NUMBERS, cells(5, -7), cells(0))), -2);
        due("the greatest", x.total(filled(x, NUMBERS, cells(MOST))), MOST);
        due("the least", x.total(filled(x, NUMBERS, cells(LEAST))), LEAST);
    }

    private static void totalOfReals() {
        NestTables x = new NestTables();
        due("each cut, not their sum", x.total(filled(x, REALS, cells(1900, 1900), cells(-1900))), 1);
        due("all below 1", x.total(filled(x, REALS, cells(999, 999, -999, -999))), 0);
        x.clear();
        int endless = endless(x);
        due("without end", x.total(endless), MOST);
        int pair = filled(x, REALS, cells(2000, 0));
        x.copy(endless, 0, 0, pair, 0, 1, 1);
        due("without end and 2, wrapping", x.total(pair), LEAST + 1);
        int none = x.product(endless, with(x, REALS, 1));
        due("no number", x.total(none), 0);
        x.copy(none, 0, 0, pair, 0, 1, 1);
        due("no number and 2", x.total(pair), 2);
    }

    private static void totalOfLinks() {
        NestTables x = new NestTables();
        int bits = filled(x, BITS, cells(1, 1));
        int numbers = filled(x, NUMBERS, cells(10), cells(20));
        int reals = filled(x, REALS, cells(100500, 100500));
        int links = filled(x, LINKS, cells(bits, NONE, numbers), cells(reals));
        due("links", x.total(links), 2 + 30 + 200);
        due("links of links", x.total(filled(x, LINKS, cells(links, bits), cells(NONE, links))), 2 * 232 + 2);
        due("links to none", x.total(with(x, LINKS, 16)), 0);
        due("no call failed", x.count(3), 0);
        NestTables y = new NestTables();
        filled(y, NUMBERS, cells(7));
        for (int t = 1; t < 16; t++) {
            filled(y, LINKS, cells(t - 1));
        }
        due("sixteen behind one another", y.total(15), 7);
        due("sixteen entered", y.entered(), 16);
    }

    private static void totalWraps() {
        NestTables x = new NestTables();
        due("just below", x.total(filled(x, NUMBERS, cells(MOST - 1, 1))), MOST);
        int above = filled(x, NUMBERS, cells(MOST), cells(1));
        due("just above", x.total(above), LEAST);
        int below = filled(x, NUMBERS, cells(LEAST, -1));
        due("below", x.total(below), MOST);
        due("across links", x.total(filled(x, LINKS, cells(above, below))), -1);
        int least = filled(x, NUMBERS, cells(LEAST));
        due("across links, twice the least", x.total(filled(x, LINKS, cells(least, least))), 0);
        due("no call failed", x.count(3), 0);
    }

    private static void totalWhatComesFirst() {
        totalFails("a ring ahead of a fallen place", () -> ringAndFallen(0, 1), 0, RING, 1);
        totalFails("a fallen place ahead of a ring", () -> ringAndFallen(1, 0), 0, NULL, 1);
        totalFails("a ring ahead of a fallen place linked", () -> ringAndBroken(0, 1), 0, RING, 1);
        totalFails("a fallen place linked ahead of a ring", () -> ringAndBroken(1, 0), 0, NULL, 2);
        totalFails("a fallen place behind 1000", () -> behind1000(FALLEN), 0, NULL, 1000);
        totalFails("a ring behind 1000", () -> behind1000(0), 0, RING, 1000);
        totalFails("one too many behind 1000, a fallen place in it", () -> behind1000(3), 0, SPENT, 1000);
        totalFails("a fallen leaf ahead of one too many", LinkSentences::leafFallen, 0, NULL, 3);
        due("nothing behind 1000", behind1000(NONE).total(0), LEAVES_OF_1000);
    }

    /** At one place a link to the table itself, another place is fallen. */
    private static NestTables ringAndFallen(int ring, int fallen) {
        NestTables x = new NestTables();
        x.table(LINKS, 2);
        x.row(0, ring, 1);
        x.put(0, ring, 0, 0);
        x.fall(0, fallen);
        return x;
    }

    /** One cell links to the table itself, another to a table with a fallen place. */
    private static NestTables ringAndBroken(int ring, int broken) {
        NestTables x = new NestTables();
        with(x, LINKS, 2);
        with(x, NUMBERS, 1, FALLEN);
        x.put(0, 0, ring, 0);
        x.put(0, 0, broken, 1);
        return x;
    }

    /** A total that has entered 1000 comes to this link (table 3 has a fallen place), or to a fallen place. */
    private static NestTables behind1000(int link) {
        NestTables x = entering(1000);
        with(x, NUMBERS, FALLEN);
        if (link == FALLEN) {
            x.fall(0, 11);
        } else {
            x.put(0, 11, 0, link);
        }
        return x;
    }

    private static NestTables leafFallen() {
        NestTables x = entering(1001);
        x.fall(LEAF, 0);
        return x;
    }

    private static void totalNull() {
        for (int kind = BITS; kind <= LINKS; kind++) {
            int of = kind;
            for (int at : cells(0, 1, 2)) {
                totalFails("kind " + of + " fallen at " + at, () -> threeOf(of, at), 0, NULL, 1);
            }
            due("kind " + of + ", none fallen", threeOf(of, 3).total(0), 0);
            totalFails("kind " + of + ", one place that is fallen", () -> onePlace(of), 0, NULL, 1);
        }
    }

    private static NestTables threeOf(int kind, int fallen) {
        NestTables x = new NestTables();
        x.table(kind, 3);
        for (int i = 0; i < 3; i++) {
            if (i != fallen) {
                x.row(0, i, 2);
            }
        }
        return x;
    }

    private static NestTables onePlace(int kind) {
        NestTables x = new NestTables();
        x.table(kind, 1);
        return x;
    }

    private static void totalNullWhereLinked() {
        totalFails("in a table linked", () -> brokenBelow(1), 1, NULL, 2);
        totalFails("in a table linked by one that is linked", () -> brokenBelow(14), 14, NULL, 15);
        totalFails("in the fifteenth linked", () -> brokenBelow(15), 15, NULL, 16);
        NestTables x = brokenBelow(15);
        x.row(0, 0, 0);
        due("no more fallen", x.total(15), 0);
        x.fall(0, 0);
        x.put(15, 0, 0, NONE);
        due("fallen, but not linked", x.total(15), 0);
    }

    /** Table 0 has a fallen place; each of as many more links to the one ahead of it. */
    private static NestTables brokenBelow(int more) {
        NestTables x = new NestTables();
        with(x, NUMBERS, FALLEN);
        for (int t = 1; t <= more; t++) {
            filled(x, LINKS, cells(t - 1));
        }
        return x;
    }

    private static void totalRing() {
        totalFails("two", LinkSentences::ring, 0, RING, 2);
        totalFails("two, from the other", LinkSentences::ring, 1, RING, 2);
        totalFails("two, from outside", LinkSentences::ring, 2, RING, 3);
        totalFails("one", LinkSentences::toItself, 0, RING, 1);
        totalFails("sixteen", () -> chain(0), 15, RING, 16);
        totalFails("the last one of sixteen to itself", () -> chain(15), 15, RING, 1);
        due("sixteen, no ring", chain(NONE).total(15), 0);
        NestTables x = new NestTables();
        filled(x, NUMBERS, cells(3));
        filled(x, LINKS, cells(0, 0));
        filled(x, LINKS, cells(1, 0, 1));
        due("linked again, when its total is found, is no ring", x.total(2), 15);
        due("entered", x.entered(), 1 + 3 + 1 + 3);
    }

    private static NestTables toItself() {
        NestTables x = new NestTables();
        filled(x, LINKS, cells(0));
        return x;
    }

    /** Each of sixteen tables links to the one ahead of it; 0 links to 15, or 15 links to itself first, or none does. */
    private static NestTables chain(int closing) {
        NestTables x = new NestTables();
        with(x, LINKS, 2);
        for (int t = 1; t < 16; t++) {
            filled(x, LINKS, cells(NONE, t - 1));
        }
        if (closing != NONE) {
            x.put(closing, 0, 0, 15);
        }
        return x;
    }

    private static void totalSpent() {
        for (int tables : cells(1, 2, 16, 17, 999, 1000)) {
            NestTables x = entering(tables);
            due("total that enters " + tables, x.total(0), 15 * ((tables - 1) / 16) + (tables - 1) % 16);
            due("entered " + tables, x.entered(), tables);
            due("no call failed, " + tables, x.count(3), 0);
        }
        for (int tables : cells(1001, 1002, 1016, 1017, 2000)) {
            totalFails("total that would enter " + tables, () -> entering(tables), 0, SPENT, 1000);
        }
        NestTables x = entering(1001);
        due("spent", x.total(0), SPENT);
        due("a smaller one behind it", x.total(HUB), 15);
        due("entered by the smaller one", x.entered(), 16);
        due("spent again", x.total(0), SPENT);
        manyWays();
    }

    /** Sixteen tables, each with 192 links to the next: too many ways to go each of them. */
    private static void manyWays() {
        NestTables x = new NestTables();
        for (int t = 0; t < 16; t++) {
            evenOfOneRow(x, LINKS, 12, 16);
        }
        for (int t = 0; t < 15; t++) {
            x.put(t, 0, 0, t + 1);
            for (int done = 1; done < 16; done *= 2) {
                x.copy(t, 0, 0, t, 0, done, done);
            }
        }
        due("total of many ways", x.total(0), SPENT);
        due("entered of many ways", x.entered(), 1000);
        due("deep of many ways", x.deep(0), 16);
        x.put(15, 11, 15, 0);
        due("a ring is found ahead of it", x.total(0), RING);
        due("a ring is found ahead of it: entered", x.entered(), 16);
        due("deep in many rings", x.deep(0), RING);
    }

    private static void totalUnknown() {
        for (int t : unknownInUse()) {
            refused("total(" + t + ")", Checks::inUse, x -> x.total(t), UNKNOWN);
        }
        due("the last one", inUse().total(IN_USE - 1), 8);
        due("the last of sixteen", full().total(15), 0);
    }

    /** A total may look like a code or a cause: then no call has failed. */
    private static void totalAnyNumber() {
        for (int number : cells(UNKNOWN, NONE, NULL, INDEX, RING, SPENT, LEAST, MOST)) {
            NestTables x = new NestTables();
            filled(x, NUMBERS, cells(number - 5, 5));
            filled(x, LINKS, cells(0));
            filled(x, NUMBERS, cells(1));
            filled(x, LINKS, cells(1, 2));
            due("total " + number, x.total(0), number);
            due("total " + number + " through a link", x.total(1), number);
            due("total " + number + " and what comes behind it", x.total(3), number + 1);
            due("entered", x.entered(), 4);
            due("no call has failed", x.count(3), 0);
        }
    }

    private static void enteredLatest() {
        NestTables x = entering(20);
        x.total(0);
        due("entered", x.entered(), 20);
        due("asked again", x.entered(), 20);
        x.total(LEAF);
        due("by the latest", x.entered(), 1);
        x.total(HUB);
        due("by the latest, more", x.entered(), 16);
        x.deep(0);
        x.total(3);
        x.count(1);
        due("no other call changes it, nor one that is refused", x.entered(), 16);
    }

    private static void enteredFirstOne() {
        NestTables x = new NestTables();
        x.total(with(x, BITS));
        due("without places", x.entered(), 1);
        x.clear();
        x.total(with(x, LINKS, 16));
        due("without a link", x.entered(), 1);
        filled(x, LINKS, cells(0));
        x.total(1);
        due("with a link", x.entered(), 2);
    }

    private static void enteredFailed() {
        NestTables x = brokenBelow(3);
        due("a place is fallen", x.total(0), NULL);
        due("a place is fallen: entered", x.entered(), 1);
        due("a place is fallen where linked", x.total(3), NULL);
        due("a place is fallen where linked: entered", x.entered(), 4);
        NestTables y = ring();
        due("a ring", y.total(2), RING);
        due("a ring: entered", y.entered(), 3);
        NestTables z = entering(1001);
        due("spent", z.total(0), SPENT);
        due("spent: entered", z.entered(), 1000);
    }

    private static void enteredAsOften() {
        NestTables x = new NestTables();
        with(x, REALS, 1);
        filled(x, LINKS, cells(0, NONE, 0), cells(0));
        filled(x, LINKS, cells(1, 0, 1));
        x.total(1);
        due("three times the same", x.entered(), 4);
        x.total(2);
        due("and those again", x.entered(), 1 + 4 + 1 + 4);
        x.share(1, 1, 1, 0);
        x.total(1);
        due("by a row at two places", x.entered(), 1 + 2 + 2);
    }

    private static void enteredAtFirst() {
        NestTables x = new NestTables();
        due("new", x.entered(), 0);
        with(x, NUMBERS, 1);
        due("ahead of a total", x.entered(), 0);
        x.total(1);
        due("behind a total that is refused", x.entered(), 0);
        x.total(0);
        due("behind a total", x.entered(), 1);
        x.clear();
        due("behind clear()", x.entered(), 0);
    }

    private static void deepOfOtherKinds() {
        for (int kind = BITS; kind <= REALS; kind++) {
            NestTables x = new NestTables();
            due("no places of kind " + kind, x.deep(with(x, kind)), 0);
            due("fallen of kind " + kind, x.deep(with(x, kind, FALLEN)), 0);
            due("a row of kind " + kind, x.deep(filled(x, kind, cells(1, 0))), 0);
        }
    }

    private static void deepest() {
        NestTables x = new NestTables();
        with(x, NUMBERS, 1);
        due("1 to numbers", x.deep(filled(x, LINKS, cells(0))), 1);
        due("2", x.deep(filled(x, LINKS, cells(1))), 2);
        due("3, the deepest first", x.deep(filled(x, LINKS, cells(2, 1, 0))), 3);
        due("3, the deepest last", x.deep(filled(x, LINKS, cells(0, 1), cells(NONE, 2))), 3);
        due("4, one twice", x.deep(filled(x, LINKS, cells(2, 3, 2, 4, 3))), 4);
        due("16 behind one another", chain(NONE).deep(15), 16);
        due("the first of them", chain(NONE).deep(0), 1);
        due("the eighth of them", chain(NONE).deep(7), 8);
        refused("nothing changes", Checks::inUse, y -> y.deep(LINKS), 1);
    }

    private static void deepWithout() {
        NestTables x = new NestTables();
        due("without places", x.deep(with(x, LINKS)), 1);
        due("without cells", x.deep(with(x, LINKS, 0)), 1);
        due("without a link", x.deep(with(x, LINKS, 16, 16)), 1);
        due("linked without a link", x.deep(filled(x, LINKS, cells(2))), 2);
    }

    private static void deepRing() {
        refused("two", LinkSentences::ring, x -> x.deep(0), RING);
        refused("two, from outside", LinkSentences::ring, x -> x.deep(2), RING);
        refused("one", LinkSentences::toItself, x -> x.deep(0), RING);
        refused("sixteen", () -> chain(0), x -> x.deep(15), RING);
        refused("sixteen, from the last", () -> chain(0), x -> x.deep(0), RING);
        refused("the one at the end to itself", () -> chain(15), x -> x.deep(15), RING);
        due("ahead of the one to itself", chain(15).deep(14), 15);
        NestTables x = ring();
        due("a ring", x.deep(2), RING);
        x.put(1, 0, 0, NONE);
        due("no more", x.deep(2), 3);
        NestTables y = new NestTables();
        filled(y, LINKS, cells(NONE));
        filled(y, LINKS, cells(0, 0));
        due("linked twice is no ring", y.deep(filled(y, LINKS, cells(1, 0, 1))), 3);
        y.put(2, 0, 0, 2);
        due("a ring ahead of others", y.deep(2), RING);
        y.put(2, 0, 0, 1);
        y.put(2, 0, 2, 2);
        due("a ring behind others", y.deep(2), RING);
    }

    private static void deepUnknown() {
        for (int t : unknownInUse()) {
            refused("deep(" + t + ")", Checks::inUse, x -> x.deep(t), UNKNOWN);
        }
        due("the last one", inUse().deep(IN_USE - 1), 0);
        due("the last of sixteen", chain(NONE).deep(15), 16);
    }

    private static void deepFallen() {
        NestTables x = new NestTables();
        due("all fallen", x.deep(with(x, LINKS, FALLEN, FALLEN)), 1);
        filled(x, LINKS, cells(0), cells(0), cells(0));
        x.fall(1, 0);
        due("the first fallen", x.deep(1), 2);
        x.fall(1, 2);
        due("the last fallen", x.deep(1), 2);
        x.fall(1, 1);
        due("all fallen, that linked", x.deep(1), 1);
        due("no call failed", x.count(3), 0);
        NestTables y = ring();
        y.fall(1, 0);
        due("a ring that is fallen", y.deep(2), 3);
    }

    private static void countTables() {
        NestTables x = new NestTables();
        due("at first", x.count(0), 0);
        for (int t = 0; t < 16; t++) {
            x.table(t % 4, t % 13);
            due("tables", x.count(0), t + 1);
        }
        x.table(BITS, 0);
        due("a seventeenth", x.count(0), 16);
        refused("nothing changes", Checks::inUse, y -> y.count(0), IN_USE);
    }

    private static void countRows() {
        NestTables x = inUse();
        due("rows", x.count(1), 8);
        due("asked again", x.count(1), 8);
        x.share(NUMBERS, 2, NUMBERS, 0);
        due("one at three places", x.count(1), 8);
        x.fall(NUMBERS, 0);
        x.fall(4, 0);
        due("one at one place", x.count(1), 8);
        x.fall(NUMBERS, 2);
        due("at none", x.count(1), 7);
        x.row(NUMBERS, 1, 0);
        due("one over another", x.count(1), 7);
        x.row(4, 0, 0);
        due("without cells", x.count(1), 8);
        x.clear();
        for (int t = 0; t < 16; t++) {
            x.table(BITS, 12);
        }
        due("none", x.count(1), 0);
        for (int at = 0; at < 192; at++) {
            x.row(at / 12, at % 12, 1);
        }
        due("all 192", x.count(1), 192);
        x.share(0, 0, 15, 11);
        due("all but one", x.count(1), 191);
    }

    private static void countFallen() {
        NestTables x = inUse();
        due("fallen", x.count(2), 4);
        x.row(NUMBERS, 2, 0);
        due("one less", x.count(2), 3);
        x.fall(NUMBERS, 2);
        x.fall(NUMBERS, 2);
        due("one more", x.count(2), 4);
        x.fall(4, 0);
        due("where it stands, too, it is not fallen", x.count(2), 5);
        x.table(LINKS, 12);
        due("a new table", x.count(2), 17);
        x.table(LINKS, 0);
        due("a new table without places", x.count(2), 17);
    }

    private static void countFailed() {
        NestTables x = inUse();
        due("failed", x.count(3), 1);
        x.table(BITS, -1);
        due("SIZE", x.count(3), 2);
        x.row(NUMBERS, 3, 1);
        due("INDEX", x.count(3), 3);
        x.share(NUMBERS, 0, NUMBERS, 2);
        due("NULL", x.count(3), 4);
        x.share(NUMBERS, 0, BITS, 0);
        due("STORE", x.count(3), 5);
        x.put(LINKS, 0, 0, LINKS);
        x.total(LINKS);
        due("RING", x.count(3), 6);
        x.deep(LINKS);
        due("RING of deep", x.count(3), 7);
        x.total(NUMBERS);
        due("NULL of total", x.count(3), 8);
        x.odd(IN_USE);
        x.table(4, 0);
        x.turned(NUMBERS);
        x.count(4);
        x.word(9);
        x.real(REALS, 9, 9);
        x.same(NUMBERS, 2, NUMBERS, 2);
        x.odd(NUMBERS);
        due("what is refused is not counted", x.count(3), 8);
        NestTables y = entering(1001);
        y.total(0);
        due("SPENT", y.count(3), 1);
        NestTables z = new NestTables();
        for (int call = 1; call < 512; call++) {
            z.table(BITS, -1);
        }
        due("511 calls", z.count(3), 511);
    }

    private static void countOutside() {
        for (int what : cells(-1, 4, 5, LEAST, MOST)) {
            refused("count(" + what + ")", Checks::inUse, x -> x.count(what), OUTSIDE);
        }
        due("count(3)", inUse().count(3), 1);
        due("count(0)", inUse().count(0), IN_USE);
    }

    /** Behind clear() the object answers each call as a new one does. */
    private static void clearAll() {
        for (int tables : cells(IN_USE, 16)) {
            NestTables x = tables == 16 ? full() : inUse();
            due("clear", x.clear(), tables);
            due("entered()", x.entered(), 0);
            unchangedBut("clear", new NestTables(), x, 0);
            due("table 0 is unknown", x.odd(0), UNKNOWN);
            due("no words", x.word(0), NONE);
            due("the first table", x.table(LINKS, 12), 0);
            due("all its places are fallen", x.count(2), 12);
            due("no rows", x.count(1), 0);
            x.row(0, 0, 2);
            due("its cells are as at first", x.get(0, 0, 0), NONE);
            due("no link to what was", x.put(0, 0, 0, 1), UNKNOWN);
            due("a link to what is", x.put(0, 0, 0, 0), 1);
        }
        NestTables y = full();
        y.clear();
        for (int t = 0; t < 16; t++) {
            due("room for sixteen", y.table(BITS, 1), t);
        }
        due("and no more", y.table(BITS, 1), ROOM);
    }

    private static void clearHowMany() {
        NestTables x = new NestTables();
        due("none", x.clear(), 0);
        x.table(BITS, 0);
        due("one", x.clear(), 1);
        due("none again", x.clear(), 0);
        due("sixteen", full().clear(), 16);
    }
}
