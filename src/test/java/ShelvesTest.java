/** Promises 32 to 38: shelves, rows, what is taken for what, counts. */
public final class ShelvesTest {
    private static final Check check = new Check();
    private static final int[] FAR = {Integer.MIN_VALUE, -1, 6, Integer.MAX_VALUE};

    public static void main(String[] args) {
        keep();
        row();
        put();
        putRefused();
        shift();
        shiftWithin();
        shiftRefused();
        taken();
        count();
        check.end();
    }

    private static void keep() {
        WhatWasSaid x = new WhatWasSaid();
        check.due("nothing", x.keep(0, -1), 1);
        check.due("no such body", x.keep(0, 0), -1);
        check.due("body -2", x.keep(0, -2), -1);
        x.body(3);
        check.due("a body", x.keep(5, 0), 1);
        check.due("body 1", x.keep(5, 1), -1);
        check.due("it is still there", x.taken(5, 0), 3);
        for (int shelf : FAR) {
            check.due("shelf " + shelf, x.keep(shelf, -1), -1);
        }
        x.row(5, 3, 2);
        x.keep(5, -1);
        check.due("no row any more", x.put(5, 0, 1), -11);
        check.due("nor a body", x.taken(5, 0), -11);
    }

    private static void row() {
        WhatWasSaid x = new WhatWasSaid();
        for (int sort = 0; sort < 5; sort++) {
            check.due("sort " + sort, x.row(sort, sort, 60), 1);
            check.due("0 at first", x.element(sort, 59), 0);
            check.due("60 and no more", x.element(sort, 60), Long.MIN_VALUE);
        }
        check.due("sort -1", x.row(0, -1, 1), -1);
        check.due("sort 5", x.row(0, 5, 1), -1);
        check.due("61", x.row(0, 0, 61), -1);
        check.due("most", x.row(0, 0, Integer.MAX_VALUE), -1);
        check.due("below 0", x.row(0, 0, -1), -14);
        check.due("far below 0", x.row(0, 0, Integer.MIN_VALUE), -14);
        check.due("BAD ahead of -14", x.row(0, 5, -1), -1);
        for (int shelf : FAR) {
            check.due("shelf " + shelf, x.row(shelf, 0, 1), -1);
        }
        x.put(0, 5, 7);
        check.due("a refused row changes nothing", x.element(0, 5), 7);
        check.due("none", x.row(0, 0, 0), 1);
        check.due("no place", x.put(0, 0, 1), -13);
        check.due("anew", x.row(0, 0, 60), 1);
        check.due("0 again", x.element(0, 5), 0);
        for (int i = 0; i < 60; i++) {
            x.put(0, i, 9);
        }
        x.row(0, 3, 60);
        for (int i = 0; i < 60; i++) {
            check.due("0 again at " + i, x.element(0, i), 0);
        }
    }

    private static void put() {
        WhatWasSaid x = new WhatWasSaid();
        long[] values = {0, 1, -1, 127, 128, 255, 256, 32767, 32768, 65536, 1L << 31, (1L << 32) + 5, Long.MIN_VALUE,
            Long.MAX_VALUE};
        for (int sort = 0; sort < 5; sort++) {
            x.row(0, sort, 2);
            for (long v : values) {
                check.due("put " + v, x.put(0, 1, v), 1);
                long[] due = {(byte) v, (short) v, (int) v, v, v == 0 ? 0 : 1};
                check.due("element of sort " + sort, x.element(0, 1), due[sort]);
                check.due("the one beside", x.element(0, 0), 0);
            }
        }
    }

    private static void putRefused() {
        WhatWasSaid x = new WhatWasSaid();
        x.body(0);
        check.due("nothing", x.put(0, 0, 1), -11);
        check.due("nothing, and no place", x.put(0, -1, 1), -11);
        check.due("element of nothing", x.element(0, 0), Long.MIN_VALUE);
        x.keep(0, 0);
        check.due("a body", x.put(0, 0, 1), -12);
        check.due("element of a body", x.element(0, 0), Long.MIN_VALUE);
        x.row(0, 3, 3);
        int[] places = {-1, 3, 60, Integer.MIN_VALUE, Integer.MAX_VALUE};
        for (int place : places) {
            check.due("place " + place, x.put(0, place, 1), -13);
            check.due("element " + place, x.element(0, place), Long.MIN_VALUE);
        }
        for (int shelf : FAR) {
            check.due("shelf " + shelf, x.put(shelf, 0, 1), -1);
            check.due("shelf " + shelf, x.element(shelf, 0), Long.MIN_VALUE);
        }
    }

    private static void count(WhatWasSaid x, int shelf, int n) {
        for (int i = 0; i < n; i++) {
            x.put(shelf, i, i + 1);
        }
    }

    private static void holds(WhatWasSaid x, int shelf, long... row) {
        for (int i = 0; i < row.length; i++) {
            check.due("element " + i, x.element(shelf, i), row[i]);
        }
    }

    private static void shift() {
        WhatWasSaid x = new WhatWasSaid();
        x.row(0, 2, 5);
        x.row(1, 2, 4);
        count(x, 0, 5);
        check.due("three", x.shift(0, 2, 1, 1, 3), 3);
        holds(x, 1, 0, 3, 4, 5);
        holds(x, 0, 1, 2, 3, 4, 5);
        check.due("none", x.shift(0, 5, 1, 4, 0), 0);
        check.due("all", x.shift(1, 0, 0, 0, 4), 4);
        holds(x, 0, 0, 3, 4, 5, 5);
    }

    private static void shiftWithin() {
        WhatWasSaid x = new WhatWasSaid();
        x.row(0, 0, 5);
        count(x, 0, 5);
        check.due("up", x.shift(0, 0, 0, 1, 4), 4);
        holds(x, 0, 1, 1, 2, 3, 4);
        check.due("down", x.shift(0, 1, 0, 0, 4), 4);
        holds(x, 0, 1, 2, 3, 4, 4);
    }

    private static void shiftRefused() {
        WhatWasSaid x = new WhatWasSaid();
        x.body(0);
        x.row(0, 2, 4);
        x.row(1, 3, 4);
        x.row(2, 2, 3);
        x.keep(3, 0);
        for (int shelf : FAR) {
            check.due("from shelf " + shelf, x.shift(shelf, 0, 4, 0, 1), -1);
            check.due("to shelf " + shelf, x.shift(4, 0, shelf, 0, 1), -1);
        }
        check.due("from nothing", x.shift(4, 0, 0, 0, 1), -11);
        check.due("to nothing", x.shift(0, 0, 4, 0, 1), -11);
        check.due("-11 ahead of -12", x.shift(3, 0, 4, 0, 1), -11);
        check.due("-11 ahead of -13", x.shift(0, 9, 4, 0, 1), -11);
        check.due("from a body", x.shift(3, 0, 0, 0, 1), -12);
        check.due("to a body", x.shift(0, 0, 3, 0, 1), -12);
        check.due("a body to itself", x.shift(3, 0, 3, 0, 0), -12);
        check.due("unlike sorts", x.shift(0, 0, 1, 0, 1), -12);
        check.due("-12 ahead of -13", x.shift(0, 9, 1, 0, 1), -12);
        int[][] places = {{-1, 0, 1}, {0, -1, 1}, {4, 0, 1}, {0, 3, 1}, {0, 0, 4}, {2, 0, 3}, {0, 0, -1},
            {5, 0, 0}, {0, 4, 0}, {Integer.MAX_VALUE, 0, Integer.MAX_VALUE}, {1, 1, Integer.MAX_VALUE},
            {0, 0, Integer.MIN_VALUE}, {Integer.MIN_VALUE, 0, 1}};
        for (int[] call : places) {
            check.due("shift(0, " + call[0] + ", 2, " + call[1] + ", " + call[2] + ")",
                    x.shift(0, call[0], 2, call[1], call[2]), -13);
        }
    }

    private static void taken() {
        WhatWasSaid x = new WhatWasSaid();
        int[] above = {-1, 0, 1, 1, 0, 3, 0, 2};
        for (int kind = 0; kind < 8; kind++) {
            x.body(kind);
            x.keep(0, kind);
            for (int k = 0; k < 8; k++) {
                boolean under = false;
                for (int at = kind; at >= 0; at = above[at]) {
                    under |= at == k;
                }
                check.due(kind + " taken for " + k, x.taken(0, k), under ? kind : -12);
            }
        }
        check.due("kind -1", x.taken(0, -1), -1);
        check.due("kind 8", x.taken(0, 8), -1);
        for (int shelf : FAR) {
            check.due("shelf " + shelf, x.taken(shelf, 0), -1);
        }
        check.due("nothing", x.taken(1, 0), -11);
        check.due("BAD ahead of -11", x.taken(1, 8), -1);
        x.row(1, 0, 1);
        check.due("a row", x.taken(1, 0), -12);
    }

    private static void count() {
        WhatWasSaid x = new WhatWasSaid();
        x.saying(0, 1);
        x.saying(0, 1);
        Check.write(x, "1", 0, 0);
        x.told(-1, 0);
        x.told(-1, 0);
        x.told(-1, 0);
        x.feed('1');
        x.feed('1');
        x.feed('1');
        x.feed('1');
        for (int v = 2; v < 8; v++) {
            x.mend(0, 3, v);
        }
        x.undo();
        for (int i = 0; i < 6; i++) {
            x.body(5);
        }
        x.act(0, 3, 1);
        int[] due = {2, 1, 3, 4, 5, 6, 11};
        for (int what = 0; what < due.length; what++) {
            check.due("count(" + what + ")", x.count(what), due[what]);
        }
        check.due("count(-1)", x.count(-1), -1);
        check.due("count(7)", x.count(7), -1);
    }
}
