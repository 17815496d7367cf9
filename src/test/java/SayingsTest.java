/** Promises 1 to 5, and 27, 28: a new object, sayings, their mending, undone and done again. */
public final class SayingsTest {
    private static final Check check = new Check();

    public static void main(String[] args) {
        newObject();
        saying();
        sayings();
        sayingsEnd();
        sayingsFromPlacesNotThere();
        sayingsRefused();
        mend();
        of();
        undoAndRedo();
        changesOfManySayings();
        fortyChanges();
        check.end();
    }

    private static void newObject() {
        WhatWasSaid x = new WhatWasSaid();
        for (int what = 0; what <= 6; what++) {
            check.due("count of a new object " + what, x.count(what), 0);
        }
        check.due("only of a new object", x.only(), 0);
        check.due("trace of a new object", x.trace(0), -1);
        check.due("undo of a new object", x.undo(), -5);
        check.due("redo of a new object", x.redo(), -5);
        for (int shelf = 0; shelf < 6; shelf++) {
            check.due("taken of a new shelf", x.taken(shelf, 0), -11);
        }
    }

    private static void saying() {
        WhatWasSaid x = new WhatWasSaid();
        int[][] bad = {{-1, 1}, {0, -1}, {4, 1}, {9, 1}, {110, 1}, {113, 1}, {0, 0}, {0, 31}, {0, 99}, {0, 100},
            {0, 800}, {0, 801}, {Integer.MIN_VALUE, 1}, {0, Integer.MIN_VALUE}, {Integer.MAX_VALUE, 1},
            {0, Integer.MAX_VALUE}};
        for (int[] pair : bad) {
            check.due("saying(" + pair[0] + ", " + pair[1] + ")", x.saying(pair[0], pair[1]), -1);
        }
        check.due("no saying came", x.count(0), 0);
        check.due("the greatest", x.saying(103, 730), 0);
        check.due("the least", x.saying(0, 1), 1);
        for (int i = 2; i < 16; i++) {
            check.due("saying " + i, x.saying(10 * (i % 11) + i % 4, 100 * (i % 8) + i), i);
        }
        check.due("the 17th", x.saying(0, 1), -3);
        check.due("BAD ahead of FULL", x.saying(0, 0), -1);
        check.due("sayings are full", x.count(0), 16);
    }

    private static void fill(WhatWasSaid x, int shelf, int sort, int... values) {
        x.row(shelf, sort, values.length);
        for (int i = 0; i < values.length; i++) {
            x.put(shelf, i, values[i]);
        }
    }

    private static void sayings() {
        WhatWasSaid x = new WhatWasSaid();
        fill(x, 2, 0, 9, 10, 3, 7, 30, 0, 0, 0, 1, 5, 1, 2, 3);
        check.due("two of three", x.sayings(2, 1, 2), 2);
        check.due("who", x.of(0, 0), 10);
        check.due("sort", x.of(0, 1), 3);
        check.due("on", x.of(0, 2), 7);
        check.due("long", x.of(0, 3), 30);
        check.due("minute of the second", x.of(1, 4), 30);
        check.due("no more than two came", x.count(0), 2);
        check.due("the third", x.sayings(2, 9, 1), 1);
        check.due("who of the third", x.of(2, 0), 5);
        check.due("long of the third", x.of(2, 3), 3);
        check.due("no changes come of it", x.count(4), 0);
    }

    private static void sayingsEnd() {
        WhatWasSaid x = new WhatWasSaid();
        check.due("the row is missing", x.sayings(0, 0, 15), 0);
        check.due("missing, from far on", x.sayings(0, Integer.MAX_VALUE, 15), 0);
        fill(x, 0, 0, 1, 1, 1, 1, 2, 2, 2, 2, 3, 3, 3);
        check.due("ends within a four", x.sayings(0, 0, 15), 2);
        check.due("those ahead came", x.count(0), 2);
        check.due("from behind the end", x.sayings(0, 11, 1), 0);
        check.due("from far behind the end", x.sayings(0, Integer.MAX_VALUE, 15), 0);
        fill(x, 1, 0, 1, 1, 1, 1, 1, 4, 1, 1, 1, 1, 1, 1);
        check.due("one is not so", x.sayings(1, 0, 3), 1);
        fill(x, 1, 0, -1, 1, 1, 1);
        check.due("who below 0", x.sayings(1, 0, 1), 0);
        fill(x, 1, 0, 11, 1, 1, 1, 1, 1, 8, 1, 1, 1, 1, 0, 1, 1, 1, 31);
        for (int i = 0; i < 16; i += 4) {
            check.due("not so from " + i, x.sayings(1, i, 1), 0);
        }
        check.due("three came", x.count(0), 3);
        int[] many = new int[60];
        java.util.Arrays.fill(many, 1);
        fill(x, 3, 0, many);
        check.due("until they are full", x.sayings(3, 0, 15), 13);
        check.due("full", x.count(0), 16);
        check.due("none when full", x.sayings(3, 0, 1), 0);
        x.row(4, 0, 0);
        check.due("a row of no elements", x.sayings(4, 0, 1), 0);
    }

    /** No range is told of the place: where there is none, the row has ended, and none came. */
    private static void sayingsFromPlacesNotThere() {
        WhatWasSaid x = new WhatWasSaid();
        fill(x, 1, 0, 1, 1, 1, 1, 2, 2, 2, 2);
        x.row(2, 0, 0);
        x.row(3, 3, 8);
        x.body(0);
        x.keep(4, 0);
        int[] places = {-1, -2, -3, -4, -5, -8, -57, -60, 5, 8, 9, 60, Integer.MIN_VALUE, Integer.MIN_VALUE + 3,
            Integer.MAX_VALUE - 3, Integer.MAX_VALUE};
        for (int place : places) {
            check.due("a missing row from " + place, x.sayings(0, place, 1), 0);
            check.due("a row of bytes from " + place, x.sayings(1, place, 1), 0);
            check.due("as many as may be from " + place, x.sayings(1, place, 15), 0);
            check.due("a row of no elements from " + place, x.sayings(2, place, 15), 0);
            check.due("a row of longs from " + place, x.sayings(3, place, 1), -12);
            check.due("an entry from " + place, x.sayings(4, place, 1), -12);
            check.due("n 0 from " + place, x.sayings(1, place, 0), -1);
            check.due("n 16 from " + place, x.sayings(1, place, 16), -1);
            check.due("shelf 6 from " + place, x.sayings(6, place, 1), -1);
            check.due("shelf -1 from " + place, x.sayings(-1, place, 1), -1);
        }
        check.due("none came", x.count(0), 0);
        check.due("the last four that is there", x.sayings(1, 4, 1), 1);
    }

    private static void sayingsRefused() {
        WhatWasSaid x = new WhatWasSaid();
        check.due("shelf -1", x.sayings(-1, 0, 1), -1);
        check.due("shelf 6", x.sayings(6, 0, 1), -1);
        check.due("n 0", x.sayings(0, 0, 0), -1);
        check.due("n 16", x.sayings(0, 0, 16), -1);
        for (int sort = 1; sort <= 4; sort++) {
            x.row(0, sort, 4);
            check.due("a row of sort " + sort, x.sayings(0, 0, 1), -12);
        }
        check.due("BAD ahead of -12", x.sayings(0, 0, 16), -1);
        x.body(0);
        x.keep(0, 0);
        check.due("an entry", x.sayings(0, 0, 1), -12);
        x.keep(0, -1);
        check.due("nothing is missing", x.sayings(0, 0, 1), 0);
    }

    private static void mend() {
        WhatWasSaid x = new WhatWasSaid();
        x.saying(42, 305);
        check.due("who", x.mend(0, 0, 10), 4);
        check.due("sort", x.mend(0, 1, 0), 2);
        check.due("on", x.mend(0, 2, 7), 3);
        check.due("long", x.mend(0, 3, 30), 5);
        check.due("four changes", x.count(4), 4);
        check.due("the same is told", x.mend(0, 3, 30), 30);
        check.due("that is none", x.count(4), 4);
        int[][] bad = {{-1, 0, 0}, {1, 0, 0}, {16, 0, 0}, {0, -1, 0}, {0, 4, 1}, {0, 0, -1}, {0, 0, 11}, {0, 1, -1},
            {0, 1, 4}, {0, 2, -1}, {0, 2, 8}, {0, 3, 0}, {0, 3, 31}, {0, Integer.MIN_VALUE, 0},
            {0, Integer.MAX_VALUE, 0}};
        for (int[] call : bad) {
            check.due("mend(" + call[0] + ", " + call[1] + ", " + call[2] + ")",
                    x.mend(call[0], call[1], call[2]), -1);
        }
        check.due("bad ones are none", x.count(4), 4);
        check.due("who now", x.of(0, 0), 10);
        check.due("long now", x.of(0, 3), 30);
    }

    private static void of() {
        WhatWasSaid x = new WhatWasSaid();
        x.saying(103, 730);
        x.saying(21, 412);
        x.saying(0, 1);
        check.due("who", x.of(1, 0), 2);
        check.due("sort", x.of(1, 1), 1);
        check.due("on", x.of(1, 2), 4);
        check.due("long", x.of(1, 3), 12);
        check.due("minute of the first", x.of(0, 4), 0);
        check.due("minute of the second", x.of(1, 4), 30);
        check.due("minute of the third", x.of(2, 4), 42);
        x.mend(0, 3, 1);
        check.due("minute after mending", x.of(2, 4), 13);
        check.due("saying -1", x.of(-1, 0), -1);
        check.due("saying 3", x.of(3, 0), -1);
        check.due("what -1", x.of(0, -1), -1);
        check.due("what 5", x.of(0, 5), -1);
    }

    private static void undoAndRedo() {
        WhatWasSaid x = new WhatWasSaid();
        x.saying(0, 1);
        check.due("nothing to undo", x.undo(), -5);
        check.due("nothing to redo", x.redo(), -5);
        x.mend(0, 3, 2);
        x.mend(0, 3, 3);
        x.mend(0, 0, 9);
        check.due("the latest first", x.undo(), 2);
        check.due("who is back", x.of(0, 0), 0);
        check.due("the next", x.undo(), 1);
        check.due("long is back", x.of(0, 3), 2);
        check.due("done again", x.redo(), 1);
        check.due("long again", x.of(0, 3), 3);
        check.due("the same is no change", x.mend(0, 3, 3), 3);
        check.due("a saying is no change", x.saying(0, 1), 1);
        check.due("so it may be done again", x.redo(), 0);
        check.due("who again", x.of(0, 0), 9);
        check.due("no more", x.redo(), -5);
        x.undo();
        x.mend(0, 2, 5);
        check.due("another came behind", x.redo(), -5);
        check.due("what may be undone", x.count(4), 3);
    }

    private static void changesOfManySayings() {
        WhatWasSaid x = new WhatWasSaid();
        x.saying(0, 1);
        x.saying(10, 102);
        x.saying(20, 203);
        x.mend(2, 0, 9);
        x.mend(1, 1, 3);
        x.mend(0, 2, 7);
        x.mend(1, 3, 30);
        int[][] places = {{1, 3, 2}, {0, 2, 0}, {1, 1, 0}, {2, 0, 2}};
        int[] after = {30, 7, 3, 9};
        for (int[] place : places) {
            x.undo();
            check.due("undone", x.of(place[0], place[1]), place[2]);
        }
        for (int i = 3; i >= 0; i--) {
            x.redo();
            check.due("done again", x.of(places[i][0], places[i][1]), after[i]);
        }
    }

    private static void fortyChanges() {
        WhatWasSaid x = new WhatWasSaid();
        x.saying(0, 1);
        x.saying(0, 1);
        for (int i = 0; i < 43; i++) {
            x.mend(i % 2, 3, 2 + i % 29);
        }
        for (int i = 42; i >= 3; i--) {
            check.due("ahead of undoing " + i, x.of(i % 2, 3), 2 + i % 29);
            check.due("undo " + i, x.undo(), i - 3);
        }
        check.due("undo the fourth", x.undo(), -5);
        check.due("the first of all stays", x.of(0, 3), 4);
        check.due("the second stays", x.of(1, 3), 3);
        for (int i = 3; i <= 42; i++) {
            check.due("redo " + i, x.redo(), 42 - i);
            check.due("behind doing again " + i, x.of(i % 2, 3), 2 + i % 29);
        }
        fortyAndOneChanges();
    }

    private static void fortyAndOneChanges() {
        WhatWasSaid x = new WhatWasSaid();
        x.saying(0, 1);
        for (int i = 0; i < 41; i++) {
            x.mend(0, 3, 2 + i % 29);
        }
        check.due("forty are kept", x.count(4), 40);
        for (int left = 39; left >= 0; left--) {
            check.due("undo to " + left, x.undo(), left);
        }
        check.due("none left", x.undo(), -5);
        check.due("the first of all stays", x.of(0, 3), 2);
        for (int left = 39; left >= 0; left--) {
            check.due("redo to " + left, x.redo(), left);
        }
        check.due("as it was last", x.of(0, 3), 2 + 40 % 29);
        check.due("no more to redo", x.redo(), -5);
    }
}
