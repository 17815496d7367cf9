import static java.lang.Integer.MAX_VALUE;
import static java.lang.Integer.MIN_VALUE;

/** The boundary cases of shelves and counts: promises 32 to 38, and what the terms say of them. */
final class ShelfEdges {
    private static final int[] NO_SHELF = {MIN_VALUE, -1, 6, 7, MAX_VALUE};
    private static final long NONE = Long.MIN_VALUE;
    private final Edges e;

    ShelfEdges(Edges e) {
        this.e = e;
    }

    void tell() {
        shelves();
        keepAndRow();
        putAndElement();
        shift();
        takenAndCount();
    }

    /** A meeting with an entry of kind 3 on shelf 0, rows of the five sorts of three on 1 to 5. */
    private static WhatWasSaid full() {
        WhatWasSaid x = new WhatWasSaid();
        x.body(3);
        x.keep(0, 0);
        for (int sort = 0; sort < 5; sort++) {
            x.row(1 + sort, sort, 3);
        }
        return x;
    }

    private void shelves() {
        e.at(Edges.TERMS, "SHELVES 0 .. 5 each hold nothing (at first)", this::sixShelves);
        e.at(Edges.TERMS, "of 0 .. 60 elements, 0 at first (false)", this::zeroAtFirst);
        e.at(Edges.TERMS, "what is put in keeps its lowest bits (a boolean: whether it is not 0; 1 or 0)",
                this::lowestBits);
        e.at(Edges.TERMS, "-11 nothing is there where something is wanted", this::nothingIsThere);
        e.at(Edges.TERMS, "-12 it is of another kind", this::anotherKind);
        e.at(Edges.TERMS, "-13 a place that is not there", this::placeNotThere);
        e.at(Edges.TERMS, "-14 a size below 0", this::sizeBelowZero);
    }

    private void sixShelves() {
        WhatWasSaid x = new WhatWasSaid();
        for (int shelf = 0; shelf < 6; shelf++) {
            e.due("shelf " + shelf, x.taken(shelf, 0), -11);
            e.due("put on it", x.put(shelf, 0, 1), -11);
            e.due("nothing on it", x.keep(shelf, -1), 1);
            e.due("a row on it", x.row(shelf, 3, 1), 1);
            e.due("put on it", x.put(shelf, 0, 10 + shelf), 1);
        }
        for (int shelf = 0; shelf < 6; shelf++) {
            e.due("its own row", x.element(shelf, 0), 10 + shelf);
        }
        for (int shelf : NO_SHELF) {
            e.due("keep on shelf " + shelf, x.keep(shelf, -1), -1);
            e.due("row on shelf " + shelf, x.row(shelf, 0, 0), -1);
            e.due("put on shelf " + shelf, x.put(shelf, 0, 0), -1);
            e.due("element on shelf " + shelf, x.element(shelf, 0), NONE);
            e.due("from shelf " + shelf, x.shift(shelf, 0, 0, 0, 0), -1);
            e.due("to shelf " + shelf, x.shift(0, 0, shelf, 0, 0), -1);
            e.due("taken from shelf " + shelf, x.taken(shelf, 0), -1);
            e.due("sayings from shelf " + shelf, x.sayings(shelf, 0, 1), -1);
        }
    }

    private void zeroAtFirst() {
        for (int sort = 0; sort < 5; sort++) {
            for (int n : new int[] {0, 1, 59, 60}) {
                WhatWasSaid x = new WhatWasSaid();
                e.due("a row of " + n, x.row(0, sort, n), 1);
                for (int i = 0; i < n; i++) {
                    e.due("element " + i, x.element(0, i), 0);
                    x.put(0, i, -1);
                }
                e.due("behind its end", x.element(0, n), NONE);
                x.row(0, sort, n);
                for (int i = 0; i < n; i++) {
                    e.due("element " + i + " of a new row", x.element(0, i), 0);
                }
            }
            WhatWasSaid x = new WhatWasSaid();
            e.due("a row of 61", x.row(0, sort, 61), -1);
            e.due("no row is there", x.put(0, 0, 1), -11);
        }
    }

    private void lowestBits() {
        long[] values = {0, 1, -1, 127, 128, -128, -129, 255, 256, 32767, 32768, -32768, -32769, 65535, 65536, MAX_VALUE,
            MAX_VALUE + 1L, MIN_VALUE, MIN_VALUE - 1L, 0xffffffffL, 1L << 32, Long.MAX_VALUE, Long.MIN_VALUE,
            Long.MIN_VALUE + 1};
        WhatWasSaid x = full();
        for (long v : values) {
            long[] due = {(byte) v, (short) v, (int) v, v, v != 0 ? 1 : 0};
            for (int sort = 0; sort < 5; sort++) {
                e.due("put " + v, x.put(1 + sort, 2, v), 1);
                e.due(v + " in a row of sort " + sort, x.element(1 + sort, 2), due[sort]);
            }
        }
        e.due("the one beside", x.element(4, 1), 0);
    }

    private void nothingIsThere() {
        WhatWasSaid x = full();
        for (int shelf = 0; shelf < 6; shelf++) {
            x.keep(shelf, -1);
            e.due("put", x.put(shelf, 0, 1), -11);
            e.due("element", x.element(shelf, 0), NONE);
            e.due("shift", x.shift(shelf, 0, shelf, 0, 0), -11);
            e.due("taken", x.taken(shelf, 0), -11);
        }
    }

    private void anotherKind() {
        WhatWasSaid x = full();
        e.due("put on an entry", x.put(0, 0, 1), -12);
        e.due("element of an entry", x.element(0, 0), NONE);
        e.due("an entry taken for one beside it", x.taken(0, 2), -12);
        for (int shelf = 1; shelf < 6; shelf++) {
            e.due("a row taken for an entry", x.taken(shelf, 0), -12);
            e.due("a row to an entry", x.shift(shelf, 0, 0, 0, 1), -12);
            e.due("an entry to a row", x.shift(0, 0, shelf, 0, 1), -12);
            for (int other = 1; other < 6; other++) {
                e.due("from sort " + shelf + " to " + other, x.shift(shelf, 0, other, 0, 3), shelf == other ? 3 : -12);
            }
        }
    }

    private void placeNotThere() {
        WhatWasSaid x = full();
        for (int shelf = 1; shelf < 6; shelf++) {
            for (int i : new int[] {MIN_VALUE, -1, 3, 4, 59, 60, MAX_VALUE}) {
                e.due("put at " + i, x.put(shelf, i, 1), -13);
                e.due("element at " + i, x.element(shelf, i), NONE);
                e.due("from " + i, x.shift(shelf, i, shelf, 0, 1), -13);
                e.due("to " + i, x.shift(shelf, 0, shelf, i, 1), -13);
            }
        }
    }

    private void sizeBelowZero() {
        WhatWasSaid x = full();
        for (int n : new int[] {MIN_VALUE, -60, -1}) {
            e.due("a row of " + n, x.row(1, 3, n), -14);
        }
        e.due("what it held stays", x.put(1, 2, 200), 1);
        e.due("a row of bytes", x.element(1, 2), -56);
        e.due("a row of 0", x.row(1, 3, 0), 1);
    }

    private void keepAndRow() {
        e.at(32, "A SHELF holds nothing (body -1), or a ENTRY: 1", this::nothingOrEntry);
        e.at(32, "BAD", this::keepBad);
        e.at(33, "A SHELF holds a ROW: 1", this::holdsRow);
        e.at(33, "BAD (sort, n above 60)", this::rowBad);
        e.at(33, "-14", this::rowBelowZero);
    }

    private void nothingOrEntry() {
        WhatWasSaid x = full();
        for (int shelf = 0; shelf < 6; shelf++) {
            e.due("an entry", x.keep(shelf, 0), 1);
            e.due("it is there", x.taken(shelf, 3), 3);
            e.due("a row is not", x.put(shelf, 0, 1), -12);
            e.due("nothing", x.keep(shelf, -1), 1);
            e.due("it is not there", x.taken(shelf, 3), -11);
            e.due("nothing, once more", x.keep(shelf, -1), 1);
        }
        x.body(7);
        x.keep(0, 0);
        x.keep(1, 1);
        x.keep(2, 1);
        e.due("each its own", x.taken(0, 0), 3);
        e.due("each its own", x.taken(1, 0), 7);
        e.due("one on two shelves", x.taken(2, 0), 7);
    }

    private void keepBad() {
        WhatWasSaid x = new WhatWasSaid();
        e.due("no entries", x.keep(0, 0), -1);
        x.body(0);
        for (int body : new int[] {MIN_VALUE, -2, 1, 49, 50, MAX_VALUE}) {
            e.due("body " + body, x.keep(0, body), -1);
        }
        for (int shelf : NO_SHELF) {
            e.due("shelf " + shelf, x.keep(shelf, 0), -1);
        }
        e.due("nothing came of it", x.taken(0, 0), -11);
    }

    private void holdsRow() {
        WhatWasSaid x = full();
        e.due("in place of an entry", x.row(0, 3, 2), 1);
        e.due("no entry any more", x.taken(0, 3), -12);
        e.due("its last place", x.put(0, 1, NONE), 1);
        e.due("no place behind it", x.put(0, 2, 1), -13);
        e.due("in place of a longer row", x.row(1, 4, 1), 1);
        e.due("of that sort", x.put(1, 0, 256), 1);
        e.due("not of the sort it was", x.element(1, 0), 1);
        e.due("as short as that", x.put(1, 1, 1), -13);
        e.due("in place of a shorter row", x.row(1, 0, 60), 1);
        e.due("0 at its first", x.element(1, 0), 0);
        e.due("0 at its last", x.element(1, 59), 0);
    }

    private void rowBad() {
        WhatWasSaid x = full();
        x.put(4, 0, 77);
        for (int sort : new int[] {MIN_VALUE, -1, 5, 6, MAX_VALUE}) {
            e.due("sort " + sort, x.row(4, sort, 1), -1);
            e.due("sort " + sort + " ahead of -14", x.row(4, sort, -1), -1);
        }
        for (int n : new int[] {61, 62, MAX_VALUE}) {
            e.due("n " + n, x.row(4, 3, n), -1);
        }
        for (int shelf : NO_SHELF) {
            e.due("shelf " + shelf, x.row(shelf, 3, 1), -1);
            e.due("shelf " + shelf + " ahead of -14", x.row(shelf, 3, -1), -1);
        }
        e.due("what it held stays", x.element(4, 0), 77);
        e.due("n 60", x.row(4, 3, 60), 1);
    }

    private void rowBelowZero() {
        WhatWasSaid x = new WhatWasSaid();
        for (int sort = 0; sort < 5; sort++) {
            e.due("n -1", x.row(sort, sort, -1), -14);
            e.due("the least n", x.row(sort, sort, MIN_VALUE), -14);
            e.due("nothing is there", x.taken(sort, 0), -11);
            e.due("n 0", x.row(sort, sort, 0), 1);
        }
    }

    private void putAndElement() {
        e.at(34, "Element i of a ROW becomes v: 1", this::firstAndLast);
        e.at(34, "BAD", () -> noShelf(false));
        e.at(34, "-11", () -> bare(false));
        e.at(34, "-12", () -> entry(false));
        e.at(34, "-13", () -> noPlace(false));
        e.at(35, "Long.MIN_VALUE: BAD", () -> noShelf(true));
        e.at(35, "-11 to -13", () -> {
            bare(true);
            entry(true);
            noPlace(true);
        });
    }

    private void firstAndLast() {
        for (int n : new int[] {1, 2, 60}) {
            WhatWasSaid x = new WhatWasSaid();
            x.row(0, 2, n);
            e.due("the last", x.put(0, n - 1, -7), 1);
            e.due("the first", x.put(0, 0, 9), 1);
            e.due("the first is", x.element(0, 0), 9);
            e.due("the last is", x.element(0, n - 1), n == 1 ? 9 : -7);
        }
        WhatWasSaid x = new WhatWasSaid();
        x.row(0, 3, 1);
        x.put(0, 0, NONE);
        e.due("an element that looks like a refusal", x.element(0, 0), NONE);
        x.put(0, 0, -11);
        e.due("an element that looks like a refusal", x.element(0, 0), -11);
    }

    private void refused(boolean element, WhatWasSaid x, int shelf, int i, int due) {
        if (element) {
            e.due("element(" + shelf + ", " + i + ")", x.element(shelf, i), NONE);
        } else {
            e.due("put(" + shelf + ", " + i + ", 5)", x.put(shelf, i, 5), due);
        }
    }

    private void noShelf(boolean element) {
        WhatWasSaid x = full();
        for (int shelf : NO_SHELF) {
            refused(element, x, shelf, 0, -1);
            refused(element, x, shelf, -1, -1);
        }
    }

    private void bare(boolean element) {
        WhatWasSaid x = new WhatWasSaid();
        for (int i : new int[] {MIN_VALUE, -1, 0, 60, MAX_VALUE}) {
            refused(element, x, 5, i, -11);
        }
    }

    private void entry(boolean element) {
        WhatWasSaid x = full();
        for (int i : new int[] {MIN_VALUE, -1, 0, 60, MAX_VALUE}) {
            refused(element, x, 0, i, -12);
        }
    }

    private void noPlace(boolean element) {
        for (int n : new int[] {0, 1, 59, 60}) {
            WhatWasSaid x = new WhatWasSaid();
            x.row(2, 3, n);
            for (int i : new int[] {MIN_VALUE, -1, n, n + 1, 61, MAX_VALUE}) {
                refused(element, x, 2, i, -13);
            }
            e.due("the last place of " + n, x.put(2, n - 1, 5), n == 0 ? -13 : 1);
        }
    }

    private void shift() {
        e.at(36, "to another one (or the same) from j on, as they all were before: n", this::asTheyWere);
        e.at(36, "BAD", this::shiftBad);
        e.at(36, "-11 (either)", this::eitherIsBare);
        e.at(36, "-12 (no ROWS, or of unlike sorts)", this::unlikeRows);
        e.at(36, "-13", this::noPlaces);
    }

    private void dueRow(String name, WhatWasSaid x, int shelf, long... row) {
        for (int i = 0; i < row.length; i++) {
            e.due(name + ", element " + i, x.element(shelf, i), row[i]);
        }
    }

    private void asTheyWere() {
        for (int sort = 0; sort < 5; sort++) {
            WhatWasSaid x = new WhatWasSaid();
            Edges.fill(x, 0, sort, 1, 0, 1, 1, 0, 1);
            x.row(1, sort, 3);
            e.due("none", x.shift(0, 0, 1, 0, 0), 0);
            e.due("none, from the end to the end", x.shift(0, 6, 1, 3, 0), 0);
            dueRow("none came", x, 1, 0, 0, 0);
            e.due("the last three to all", x.shift(0, 3, 1, 0, 3), 3);
            dueRow("came", x, 1, 1, 0, 1);
            e.due("one to the last place", x.shift(0, 1, 1, 2, 1), 1);
            dueRow("came", x, 1, 1, 0, 0);
            dueRow("is as it was", x, 0, 1, 0, 1, 1, 0, 1);
        }
        WhatWasSaid x = new WhatWasSaid();
        Edges.fill(x, 0, 3, 1, 2, 3, 4, 5, 6);
        e.due("up by one", x.shift(0, 0, 0, 1, 5), 5);
        dueRow("up by one", x, 0, 1, 1, 2, 3, 4, 5);
        e.due("down by two", x.shift(0, 2, 0, 0, 4), 4);
        dueRow("down by two", x, 0, 2, 3, 4, 5, 4, 5);
        e.due("onto itself", x.shift(0, 0, 0, 0, 6), 6);
        dueRow("onto itself", x, 0, 2, 3, 4, 5, 4, 5);
        WhatWasSaid y = new WhatWasSaid();
        y.row(0, 2, 60);
        y.row(1, 2, 60);
        y.put(0, 0, 7);
        y.put(0, 59, 8);
        e.due("all sixty", y.shift(0, 0, 1, 0, 60), 60);
        e.due("the first", y.element(1, 0), 7);
        e.due("the last", y.element(1, 59), 8);
    }

    private void shiftBad() {
        WhatWasSaid x = full();
        x.keep(5, -1);
        for (int shelf : NO_SHELF) {
            e.due("from " + shelf, x.shift(shelf, 0, 1, 0, 1), -1);
            e.due("to " + shelf, x.shift(1, 0, shelf, 0, 1), -1);
            e.due("ahead of -11", x.shift(5, 0, shelf, 0, 1), -1);
            e.due("ahead of -11", x.shift(shelf, 0, 5, 0, 1), -1);
        }
    }

    private void eitherIsBare() {
        WhatWasSaid x = full();
        x.keep(5, -1);
        for (int shelf = 0; shelf < 6; shelf++) {
            e.due("from nothing to " + shelf, x.shift(5, 0, shelf, 0, 0), -11);
            e.due("from " + shelf + " to nothing", x.shift(shelf, 0, 5, 0, 0), -11);
            e.due("ahead of -13", x.shift(shelf, -1, 5, -1, -1), -11);
        }
    }

    private void unlikeRows() {
        WhatWasSaid x = full();
        for (int shelf = 0; shelf < 6; shelf++) {
            for (int other = 0; other < 6; other++) {
                int due = shelf == 0 || shelf != other ? -12 : -13;
                e.due(shelf + " to " + other, x.shift(shelf, 0, other, 0, 4), due);
                e.due(shelf + " to " + other + ", n -1", x.shift(shelf, 0, other, 0, -1), due);
                e.due(shelf + " to " + other + ", none", x.shift(shelf, 0, other, 0, 0), due == -12 ? -12 : 0);
            }
        }
    }

    private void noPlaces() {
        WhatWasSaid x = new WhatWasSaid();
        Edges.fill(x, 0, 2, 1, 2, 3, 4);
        Edges.fill(x, 1, 2, 5, 6, 7);
        int[][] calls = {{-1, 0, 1}, {0, -1, 1}, {-1, 0, 0}, {0, -1, 0}, {4, 0, 1}, {0, 3, 1}, {5, 0, 0}, {0, 4, 0}, {0, 0, 4},
            {0, 0, 5}, {2, 0, 3}, {0, 1, 3}, {0, 0, -1}, {4, 3, -1}, {0, 0, MIN_VALUE}, {0, 0, MAX_VALUE},
            {1, 1, MAX_VALUE}, {MAX_VALUE, 0, 1}, {0, MAX_VALUE, 1}, {MAX_VALUE, MAX_VALUE, MAX_VALUE},
            {MIN_VALUE, 0, 0}, {0, MIN_VALUE, 0}, {MIN_VALUE, MIN_VALUE, MIN_VALUE}, {MAX_VALUE, 0, MIN_VALUE}};
        for (int[] call : calls) {
            e.due("shift(0, " + call[0] + ", 1, " + call[1] + ", " + call[2] + ")",
                    x.shift(0, call[0], 1, call[1], call[2]), -13);
        }
        dueRow("as it was", x, 0, 1, 2, 3, 4);
        dueRow("as it was", x, 1, 5, 6, 7);
        e.due("just so many", x.shift(0, 1, 1, 0, 3), 3);
    }

    private void takenAndCount() {
        e.at(37, "KIND k (0 .. 7), or under it: its KIND", this::orUnderIt);
        e.at(37, "BAD", this::takenBad);
        e.at(37, "-11", this::takenBare);
        e.at(37, "-12", this::takenUnlike);
        e.at(38, "0 SAYINGS, 1 WRITERS, 2 PAPERS, 3 bytes on THE TAPE, 4 changes that may be UNDONE, "
                + "5 ENTRIES kept by call", this::counts);
        e.at(38, "BAD", this::countBad);
    }

    private void orUnderIt() {
        int[][] above = {{0}, {1, 0}, {2, 1, 0}, {3, 1, 0}, {4, 0}, {5, 3, 1, 0}, {6, 0}, {7, 2, 1, 0}};
        WhatWasSaid x = new WhatWasSaid();
        for (int kind = 0; kind < 8; kind++) {
            x.body(kind);
            x.keep(0, kind);
            for (int k : above[kind]) {
                e.due(kind + " taken for " + k, x.taken(0, k), kind);
            }
        }
    }

    private void takenBad() {
        WhatWasSaid x = full();
        for (int k : new int[] {MIN_VALUE, -1, 8, 9, MAX_VALUE}) {
            e.due("an entry for " + k, x.taken(0, k), -1);
            e.due("a row for " + k, x.taken(1, k), -1);
        }
        for (int shelf : NO_SHELF) {
            e.due("shelf " + shelf, x.taken(shelf, 0), -1);
        }
        e.due("nothing for 8", new WhatWasSaid().taken(0, 8), -1);
    }

    private void takenBare() {
        WhatWasSaid x = full();
        x.keep(0, -1);
        x.keep(1, -1);
        for (int k = 0; k < 8; k++) {
            e.due("nothing for " + k, x.taken(0, k), -11);
            e.due("nothing for " + k, x.taken(1, k), -11);
        }
    }

    private void takenUnlike() {
        boolean[][] is = new boolean[8][8];
        int[][] above = {{0}, {1, 0}, {2, 1, 0}, {3, 1, 0}, {4, 0}, {5, 3, 1, 0}, {6, 0}, {7, 2, 1, 0}};
        WhatWasSaid x = full();
        for (int kind = 0; kind < 8; kind++) {
            for (int k : above[kind]) {
                is[kind][k] = true;
            }
            x.keep(0, x.body(kind));
            for (int k = 0; k < 8; k++) {
                if (!is[kind][k]) {
                    e.due(kind + " taken for " + k, x.taken(0, k), -12);
                }
            }
        }
        for (int k = 0; k < 8; k++) {
            e.due("a row taken for " + k, x.taken(1, k), -12);
        }
    }

    private void counts() {
        WhatWasSaid x = Edges.meeting(16);
        for (int i = 0; i < 4; i++) {
            Check.write(x, "1", 0, 0);
        }
        for (int i = 0; i < 10; i++) {
            x.told(-1, 0);
        }
        for (int i = 0; i < 120; i++) {
            x.feed('1');
        }
        for (int i = 0; i < 41; i++) {
            x.mend(0, 3, 2 + i % 2);
        }
        for (int i = 0; i < 50; i++) {
            x.body(5);
        }
        x.act(49, 3, 0);
        int[] due = {16, 4, 10, 120, 40, 50, 11};
        for (int what = 0; what < due.length; what++) {
            e.due("count(" + what + ") of what is full", x.count(what), due[what]);
        }
        x.undo();
        x.writer(11, 0);
        x.act(50, 0, 0);
        e.due("one change less", x.count(4), 39);
        e.due("the tape stays", x.count(3), 120);
        e.due("no bodies ran", x.count(6), 0);
        x.redo();
        e.due("one change more", x.count(4), 40);
    }

    private void countBad() {
        WhatWasSaid x = full();
        for (int what : new int[] {MIN_VALUE, -1, 7, 8, MAX_VALUE}) {
            e.due("count(" + what + ")", x.count(what), -1);
        }
    }
}
