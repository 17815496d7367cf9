import java.util.ArrayList;
import java.util.List;

/**
 * Refused calls change nothing: of two objects alike one gets a refused call, and then both are looked at as far as
 * calls can see, to the last change, byte and element.
 */
final class RefusedCalls {
    interface Call {
        long of(WhatWasSaid x);
    }

    private interface Maker {
        WhatWasSaid make();
    }

    private static final int NO = Integer.MIN_VALUE;
    private static final int FAR = Integer.MAX_VALUE;
    private final Edges e;
    private Maker maker;
    private String name;
    private List<Long> before;

    RefusedCalls(Edges e) {
        this.e = e;
    }

    void tell() {
        e.at(Edges.TERMS, "What is answered so changes nothing.", () -> {
            in("a new object", WhatWasSaid::new);
            onNew();
            in("an object of some", RefusedCalls::some);
            onSome();
            in("an object that is full", RefusedCalls::full);
            onFull();
        });
    }

    /** Some of all: a change undone, an act's trace, a text on the tape, a shelf with nothing, one with an empty row. */
    private static WhatWasSaid some() {
        WhatWasSaid x = Edges.said(0, 105, 12, 206, 21, 107, 102, 208, 3, 130);
        Check.write(x, "i*9+40", 1, 7);
        Check.write(x, "l*3", 10, 0);
        x.told(-1, 5);
        x.take(0, 3);
        x.told(1, 31);
        x.add(0, 4, 1);
        x.mend(0, 0, 7);
        x.mend(1, 1, 3);
        x.mend(2, 2, 4);
        x.mend(4, 3, 29);
        x.undo();
        x.body(5);
        x.body(7);
        x.body(0);
        Edges.fill(x, 0, 0, 1, 2, 3, 4, 11, 0, 0, 1);
        Edges.fill(x, 1, 3, 1, 2, 3);
        x.keep(2, 1);
        Edges.fill(x, 3, 4, 1, 0);
        x.row(5, 0, 0);
        x.act(0, 3, 6);
        x.feed('7');
        x.feed('*');
        x.feed('l');
        return x;
    }

    /** As much of all as there may be, by some 250 calls: looking at it takes 220 more, and 512 is the most. */
    private static WhatWasSaid full() {
        WhatWasSaid x = new WhatWasSaid();
        for (int i = 0; i < 16; i++) {
            x.saying(10 * (i % 11) + i % 4, 100 * (i % 8) + 1 + i);
        }
        for (int i = 0; i < 4; i++) {
            Check.write(x, "wkol".substring(i, i + 1), i, i);
        }
        for (int i = 0; i < 10; i++) {
            x.told(i % 5 - 1, i == 9 ? 65535 : 1 << i);
        }
        for (int i = 0; i < 41; i++) {
            x.mend(i % 2, 3, 2 + i % 29);
        }
        for (int i = 0; i < 50; i++) {
            x.body(i % 8);
        }
        x.row(0, 0, 60);
        x.put(0, 59, 9);
        x.act(49, 0, 1);
        for (int i = 0; i < 120; i++) {
            x.feed('0' + i % 10);
        }
        return x;
    }

    private void in(String newName, Maker newMaker) {
        name = newName;
        maker = newMaker;
        before = look(maker.make());
        e.check.holds("two alike look alike", before.equals(look(maker.make())));
    }

    private void refused(String call, long due, Call refused) {
        WhatWasSaid x = maker.make();
        e.due(call + " on " + name, refused.of(x), due);
        List<Long> after = look(x);
        int place = 0;
        while (place < before.size() && place < after.size() && before.get(place).equals(after.get(place))) {
            place++;
        }
        e.check.holds(call + " on " + name + " changes nothing, look " + place + " of " + before.size(),
                after.equals(before));
    }

    /** All that calls can see. What is seen last changes the object, and is seen by that. */
    private static List<Long> look(WhatWasSaid x) {
        List<Long> seen = new ArrayList<>();
        int[] counts = new int[7];
        for (int what = 0; what < 7; what++) {
            counts[what] = x.count(what);
            see(seen, counts[what]);
        }
        for (int i = 0; i < counts[6]; i++) {
            see(seen, x.trace(i));
        }
        lookAtSayings(x, seen, counts[0], 0);
        for (int writer = 0; writer < counts[1]; writer++) {
            see(seen, x.years(writer, 0));
        }
        for (int paper = 0; paper < counts[2]; paper++) {
            see(seen, x.page(paper, 1), x.page(paper, 2), x.page(paper, 3));
            for (int place = 0; place < x.page(paper, 0) && counts[0] < 16; place++) {
                for (int part = 0; part < 4; part++) {
                    see(seen, x.page(paper, 100 * (1 + place) + part));
                }
            }
        }
        lookAtShelves(x, seen);
        lookAtEntries(x, seen, counts[5]);
        lookAtChanges(x, seen, counts[0]);
        lookAtTape(x, seen, counts);
        return seen;
    }

    private static void see(List<Long> seen, long... answers) {
        for (long answer : answers) {
            seen.add(answer);
        }
    }

    private static void lookAtSayings(WhatWasSaid x, List<Long> seen, int sayings, int from) {
        for (int saying = 0; saying < sayings; saying++) {
            for (int what = from; what < 4; what++) {
                see(seen, x.of(saying, what));
            }
        }
    }

    private static void lookAtShelves(WhatWasSaid x, List<Long> seen) {
        for (int shelf = 0; shelf < 6; shelf++) {
            int kind = x.taken(shelf, 0);
            see(seen, kind);
            for (int i = 0; i < 9 && kind == -12; i++) {
                see(seen, x.element(shelf, i));
            }
        }
        see(seen, x.element(0, 59), x.element(0, 60));
        for (int shelf = 0; shelf < 6; shelf++) {
            see(seen, x.shift(shelf, 0, 0, 0, 0));
        }
    }

    private static void lookAtEntries(WhatWasSaid x, List<Long> seen, int entries) {
        for (int body = 0; body < entries; body += entries < 50 ? 1 : 7) {
            see(seen, x.act(body, 3, 5), x.count(6));
        }
    }

    private static void lookAtChanges(WhatWasSaid x, List<Long> seen, int sayings) {
        int again = x.redo();
        see(seen, again);
        if (again >= 0) {
            lookAtSayings(x, seen, sayings, 0);
            see(seen, x.redo());
        }
        for (int left = x.count(4); left >= 0; left--) {
            see(seen, x.undo());
        }
        lookAtSayings(x, seen, sayings, sayings < 16 ? 0 : 3);
    }

    private static void lookAtTape(WhatWasSaid x, List<Long> seen, int[] counts) {
        int writer = x.writer(10, 5);
        see(seen, writer, x.count(3));
        for (int saying = 0; saying < counts[0] && writer >= 0; saying++) {
            see(seen, x.heed(writer, saying));
        }
        if (writer >= 0) {
            int paper = x.take(writer, 1);
            see(seen, paper, x.page(paper, 1), x.page(paper, 2), x.page(paper, 3));
        }
    }

    private void onNew() {
        refused("of", -1, x -> x.of(0, 0));
        refused("mend", -1, x -> x.mend(0, 0, 1));
        refused("heed", -1, x -> x.heed(0, 0));
        refused("take", -1, x -> x.take(0, 1));
        refused("told", -1, x -> x.told(-1, 1));
        refused("told", -1, x -> x.told(0, 0));
        refused("add", -1, x -> x.add(0, 0, 0));
        refused("strike", -1, x -> x.strike(0, 0));
        refused("read", -1, x -> x.read(0, 0));
        refused("cut", -1, x -> x.cut(0, 0));
        refused("page", -2000000000, x -> x.page(0, 0));
        refused("led", -1, x -> x.led(0, 0));
        refused("sure", -1, x -> x.sure(0, 0));
        refused("fight", -1, x -> x.fight(1, 0));
        refused("order", -1, x -> x.order(0));
        refused("said", Long.MIN_VALUE, x -> x.said(0, 50, 0));
        refused("whose", -1, x -> x.whose(0));
        refused("learnt", -1, x -> x.learnt(1, 0));
        refused("asleep", -1, x -> x.asleep(0, 0));
        refused("ask", -5, x -> x.ask(0));
        refused("years", -1, x -> x.years(0, 0));
        refused("undo", -5, x -> x.undo());
        refused("redo", -5, x -> x.redo());
        refused("act", 0, x -> x.act(0, 0, 5));
        refused("trace", -1, x -> x.trace(0));
        refused("keep", -1, x -> x.keep(0, 0));
        refused("put", -11, x -> x.put(0, 0, 1));
        refused("element", Long.MIN_VALUE, x -> x.element(0, 0));
        refused("shift", -11, x -> x.shift(0, 0, 1, 0, 0));
        refused("taken", -11, x -> x.taken(0, 0));
        refused("row", -14, x -> x.row(0, 0, -1));
    }

    private void onSome() {
        sayingsOfSome();
        papersOfSome();
        yearsAfterOfSome();
        shelvesOfSome();
    }

    private void sayingsOfSome() {
        for (int ws : new int[] {NO, -1, 4, 14, 104, 110, FAR}) {
            refused("saying(" + ws + ", 1)", -1, x -> x.saying(ws, 1));
        }
        for (int ol : new int[] {NO, -1, 0, 31, 100, 800, FAR}) {
            refused("saying(0, " + ol + ")", -1, x -> x.saying(0, ol));
        }
        for (int i : new int[] {NO, -1, 6, FAR}) {
            refused("sayings(" + i + ", 0, 1)", -1, x -> x.sayings(i, 0, 1));
        }
        for (int n : new int[] {NO, -1, 0, 16, FAR}) {
            refused("sayings(0, 0, " + n + ")", -1, x -> x.sayings(0, 0, n));
        }
        for (int shelf = 1; shelf < 4; shelf++) {
            int from = shelf;
            refused("sayings(" + from + ", 0, 1)", -12, x -> x.sayings(from, 0, 1));
        }
        for (int place : new int[] {NO, -4, -1, 4, 5, 8, FAR}) {
            refused("sayings(0, " + place + ", 1)", 0, x -> x.sayings(0, place, 1));
        }
        refused("sayings(4, 0, 1)", 0, x -> x.sayings(4, 0, 1));
        refused("sayings(5, 0, 1)", 0, x -> x.sayings(5, 0, 1));
        int[][] mends = {{-1, 0, 1}, {5, 0, 1}, {0, -1, 1}, {0, 4, 1}, {0, 0, -1}, {0, 0, 11}, {0, 1, -1}, {0, 1, 4}, {0, 2, -1},
            {0, 2, 8}, {0, 3, 0}, {0, 3, 31}};
        for (int[] call : mends) {
            refused("mend " + call[0] + " " + call[1] + " " + call[2], -1, x -> x.mend(call[0], call[1], call[2]));
        }
        refused("a mend that tells the same number", 7, x -> x.mend(0, 0, 7));
        refused("of(5, 0)", -1, x -> x.of(5, 0));
        refused("of(0, 5)", -1, x -> x.of(0, 5));
        refused("feed(-1)", -1, x -> x.feed(-1));
        refused("feed(256)", -1, x -> x.feed(256));
        refused("writer(-1, 0)", -1, x -> x.writer(-1, 0));
        refused("writer(11, 0)", -1, x -> x.writer(11, 0));
        refused("writer(0, -1)", -1, x -> x.writer(0, -1));
        refused("writer(0, 8)", -1, x -> x.writer(0, 8));
        refused("heed(2, 0)", -1, x -> x.heed(2, 0));
        refused("heed(0, 5)", -1, x -> x.heed(0, 5));
    }

    private void papersOfSome() {
        for (int i : new int[] {NO, -1, 2, FAR}) {
            refused("take(" + i + ", 1)", -1, x -> x.take(i, 1));
        }
        for (int i : new int[] {NO, -2, 2, FAR}) {
            refused("told(" + i + ", 1)", -1, x -> x.told(i, 1));
        }
        for (int i : new int[] {NO, -1, 32, FAR}) {
            refused("told(0, " + i + ")", -1, x -> x.told(0, i));
        }
        int[][] adds = {{-1, 1, 0}, {3, 1, 0}, {0, -1, 0}, {0, 5, 0}, {0, 0, 0}, {0, 4, 3}, {0, 1, -1}, {0, 1, 4}};
        for (int[] call : adds) {
            refused("add " + call[0] + " " + call[1] + " " + call[2], -1, x -> x.add(call[0], call[1], call[2]));
        }
        for (int i : new int[] {NO, -1, 3, FAR}) {
            refused("add to paper " + i, -1, x -> x.add(i, 1, 0));
            refused("strike on paper " + i, -1, x -> x.strike(i, 0));
            refused("strike at place " + i, -1, x -> x.strike(0, i));
            refused("read of paper " + i, -1, x -> x.read(i, 0));
            refused("cut of paper " + i, -1, x -> x.cut(i, 0));
            refused("page of paper " + i, -2000000000, x -> x.page(i, 0));
            refused("led on paper " + i, -1, x -> x.led(i, 0));
        }
        refused("read(0, -1)", -1, x -> x.read(0, -1));
        refused("read(0, 11)", -1, x -> x.read(0, 11));
        refused("cut(0, -1)", -1, x -> x.cut(0, -1));
        refused("cut(0, 17)", -1, x -> x.cut(0, 17));
        refused("cut to as many as there are", 0, x -> x.cut(0, 3));
        refused("read by one who said nothing", 0, x -> x.read(0, 9));
        refused("page(0, 4)", -2000000000, x -> x.page(0, 4));
        refused("page(0, 400)", -2000000000, x -> x.page(0, 400));
        refused("led(0, 1)", -2, x -> x.led(0, 1));
        refused("led(0, 5)", -1, x -> x.led(0, 5));
    }

    private void yearsAfterOfSome() {
        refused("sure(5, 0)", -1, x -> x.sure(5, 0));
        refused("sure(0, 2)", -1, x -> x.sure(0, 2));
        refused("fight(0, 0)", -1, x -> x.fight(0, 0));
        refused("fight(3, 0)", -1, x -> x.fight(3, 0));
        refused("fight(1, 2)", -1, x -> x.fight(1, 2));
        refused("order(5)", -1, x -> x.order(5));
        refused("said(5, 50, 0)", Long.MIN_VALUE, x -> x.said(5, 50, 0));
        refused("said(0, 100, 0)", Long.MIN_VALUE, x -> x.said(0, 100, 0));
        refused("said(0, 50, 2)", Long.MIN_VALUE, x -> x.said(0, 50, 2));
        refused("whose(3)", -1, x -> x.whose(3));
        refused("learnt(8, 0)", -1, x -> x.learnt(8, 0));
        refused("learnt(1, 2)", -1, x -> x.learnt(1, 2));
        refused("asleep(3, 0)", -1, x -> x.asleep(3, 0));
        refused("asleep(0, 2)", -1, x -> x.asleep(0, 2));
        refused("ask(2)", -1, x -> x.ask(2));
        refused("years(2, 0)", -1, x -> x.years(2, 0));
        refused("years(0, 100)", -1, x -> x.years(0, 100));
    }

    private void shelvesOfSome() {
        refused("body(-1)", -1, x -> x.body(-1));
        refused("body(8)", -1, x -> x.body(8));
        refused("trace(11)", -1, x -> x.trace(11));
        for (int i : new int[] {NO, -1, 6, FAR}) {
            refused("keep on shelf " + i, -1, x -> x.keep(i, -1));
            refused("row on shelf " + i, -1, x -> x.row(i, 0, 1));
            refused("put on shelf " + i, -1, x -> x.put(i, 0, 9));
            refused("element of shelf " + i, Long.MIN_VALUE, x -> x.element(i, 0));
            refused("shift from shelf " + i, -1, x -> x.shift(i, 0, 0, 0, 1));
            refused("shift to shelf " + i, -1, x -> x.shift(0, 0, i, 0, 1));
            refused("taken from shelf " + i, -1, x -> x.taken(i, 0));
        }
        for (int i : new int[] {NO, -2, 3, FAR}) {
            refused("keep of body " + i, -1, x -> x.keep(0, i));
        }
        refused("row(0, -1, 1)", -1, x -> x.row(0, -1, 1));
        refused("row(0, 5, 1)", -1, x -> x.row(0, 5, 1));
        refused("row(0, 0, 61)", -1, x -> x.row(0, 0, 61));
        refused("row(0, 0, -1)", -14, x -> x.row(0, 0, -1));
        refused("row(2, 3, -1)", -14, x -> x.row(2, 3, NO));
        refused("put on nothing", -11, x -> x.put(4, 0, 9));
        refused("put on an entry", -12, x -> x.put(2, 0, 9));
        for (int i : new int[] {NO, -1, 8, FAR}) {
            refused("put at " + i, -13, x -> x.put(0, i, 9));
            refused("element at " + i, Long.MIN_VALUE, x -> x.element(0, i));
            refused("shift from " + i, -13, x -> x.shift(0, i, 0, 0, 1));
            refused("shift to " + i, -13, x -> x.shift(0, 0, 0, i, 1));
        }
        refused("shift of too many", -13, x -> x.shift(0, 1, 0, 0, 8));
        refused("shift to where not all have room", -13, x -> x.shift(0, 0, 0, 4, 5));
        refused("shift of fewer than none", -13, x -> x.shift(0, 1, 0, 0, -1));
        refused("shift of none", 0, x -> x.shift(0, 1, 0, 0, 0));
        refused("shift to nothing", -11, x -> x.shift(0, 0, 4, 0, 1));
        refused("shift from nothing", -11, x -> x.shift(4, 0, 0, 0, 1));
        refused("shift to an entry", -12, x -> x.shift(0, 0, 2, 0, 1));
        refused("shift to an unlike row", -12, x -> x.shift(0, 0, 1, 0, 1));
        refused("taken for one it is not under", -12, x -> x.taken(2, 3));
        refused("taken for 8", -1, x -> x.taken(2, 8));
        refused("count(7)", -1, x -> x.count(7));
        refused("count(-1)", -1, x -> x.count(-1));
    }

    private void onFull() {
        refused("saying", -3, x -> x.saying(0, 1));
        refused("sayings from a row of zeros", 0, x -> x.sayings(0, 0, 15));
        refused("feed", -3, x -> x.feed('1'));
        refused("writer", -3, x -> x.writer(0, 0));
        refused("take", -3, x -> x.take(0, 0));
        refused("told", -3, x -> x.told(-1, 3));
        refused("add of what the paper has", -1, x -> x.add(9, 0, 0));
        refused("body", -3, x -> x.body(0));
        refused("mend", -1, x -> x.mend(16, 3, 5));
        refused("a mend that tells the same number", 2 + 40 % 29, x -> x.mend(0, 3, 2 + 40 % 29));
        refused("redo", -5, x -> x.redo());
        refused("keep", -1, x -> x.keep(0, 50));
        refused("put", -13, x -> x.put(0, 60, 9));
        refused("row", -1, x -> x.row(0, 0, 61));
    }
}
