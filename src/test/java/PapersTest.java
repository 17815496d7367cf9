/** Promises 9 to 16: papers taken, told, amended, read, cut, looked at. */
public final class PapersTest {
    private static final Check check = new Check();

    public static void main(String[] args) {
        takeByDraws();
        takeAll();
        joins();
        softens();
        decisionsLast();
        allHabits();
        takeRefused();
        told();
        add();
        strike();
        read();
        readAtMost();
        cut();
        page();
        led();
        check.end();
    }

    private static void takeByDraws() {
        int[] seeds = {0, 1, -1, 77, Integer.MIN_VALUE, Integer.MAX_VALUE, 123456789};
        for (int seed : seeds) {
            WhatWasSaid x = new WhatWasSaid();
            for (int i = 0; i < 16; i++) {
                x.saying(0, 100 * (i % 2) + 1);
            }
            Check.write(x, "i*6+5", 1, 0);
            check.due("a paper by " + seed, x.take(0, seed), 0);
            long z = seed;
            int bits = 0;
            for (int i = 0; i < 16; i++) {
                z = z * 1103515245L + 12345L & 0xffffffffL;
                if (z / 256 % 100 < 6 * i + 5) {
                    bits |= 1 << i;
                }
            }
            check.due("the draws of " + seed, x.page(0, 2), bits);
            check.due("by whom", x.page(0, 1), 0);
        }
    }

    private static WhatWasSaid meeting(int... row) {
        WhatWasSaid x = new WhatWasSaid();
        for (int i = 0; i + 1 < row.length; i += 2) {
            x.saying(row[i], row[i + 1]);
        }
        return x;
    }

    private static void takeAll() {
        WhatWasSaid x = meeting(32, 105, 41, 206);
        Check.write(x, "100", 3, 0);
        x.take(0, 5);
        check.due("two entries", x.page(0, 0), 2);
        check.due("sort", x.page(0, 101), 2);
        check.due("twice by self", x.page(0, 102), 10);
        check.due("once by another", x.page(0, 202), 6);
        check.due("not added", x.page(0, 103), 0);
        Check.write(x, "0", 3, 0);
        check.due("one who takes none down", x.take(1, 5), 1);
        check.due("no entries", x.page(1, 0), 0);
        x.mend(0, 1, 0);
        x.mend(0, 3, 30);
        check.due("an entry keeps its sort", x.page(0, 101), 2);
        check.due("an entry keeps its length", x.page(0, 102), 10);
    }

    private static void joins() {
        WhatWasSaid x = meeting(0, 101, 1, 102, 2, 104, 0, 208, 0, 116, 10, 101, 0, 101);
        Check.write(x, "100", 9, 1);
        x.take(0, 0);
        check.due("the row", Check.rowOf(x, 0), 0x103456);
        check.due("three joined", x.page(0, 102), 7);
        check.due("the first's sort", x.page(0, 101), 0);
        check.due("on another", x.page(0, 202), 8);
        check.due("not side by side", x.page(0, 302), 16);
        Check.write(x, "i=1?0;100", 0, 1);
        x.take(1, 0);
        check.due("side by side once the one between lacks", Check.rowOf(x, 1), 0x103456);
        check.due("twice by self, joined", x.page(1, 102), 10);
        Check.write(x, "i=3?0;100", 9, 1);
        x.take(2, 0);
        check.due("all four on it", Check.rowOf(x, 2), 0x1056);
        check.due("as long as all four", x.page(2, 102), 23);
    }

    private static void softens() {
        WhatWasSaid x = meeting(2, 101, 1, 201, 3, 301);
        Check.write(x, "100", 9, 2);
        x.take(0, 0);
        check.due("against becomes spoke", x.page(0, 101), 0);
        check.due("moved stays", x.page(0, 201), 1);
        check.due("decided stays", x.page(0, 301), 3);
        check.due("the saying is as it was", x.of(0, 1), 2);
    }

    private static void decisionsLast() {
        WhatWasSaid x = meeting(3, 101, 0, 201, 3, 301, 1, 401, 2, 501, 3, 601, 0, 701);
        Check.write(x, "100", 9, 4);
        x.take(0, 0);
        check.due("decisions last, all in their order", Check.rowOf(x, 0), 0x11346025L);
        check.due("against stays", x.page(0, 301), 2);
        WhatWasSaid y = meeting(3, 101, 3, 201);
        Check.write(y, "100", 9, 4);
        y.take(0, 0);
        check.due("decisions alone", Check.rowOf(y, 0), 0x101);
    }

    private static void allHabits() {
        WhatWasSaid x = meeting(3, 101, 2, 102, 12, 103, 13, 104, 3, 105);
        Check.write(x, "100", 1, 7);
        x.take(0, 0);
        check.due("joined ahead of being put last", Check.rowOf(x, 0), 0x1204);
        check.due("a decision that joined one against", x.page(0, 202), 3);
        check.due("softened, with a decision joined", x.page(0, 101), 0);
        check.due("twice both", x.page(0, 102), 14);
    }

    private static void takeRefused() {
        WhatWasSaid x = meeting(0, 1);
        check.due("no writers", x.take(0, 0), -1);
        Check.write(x, "100", 0, 0);
        check.due("writer -1", x.take(-1, 0), -1);
        check.due("writer 1", x.take(1, 0), -1);
        for (int i = 0; i < 10; i++) {
            check.due("paper " + i, x.take(0, i), i);
        }
        check.due("ten are all", x.take(0, 0), -3);
        check.due("BAD ahead of FULL", x.take(1, 0), -1);
        check.due("told is full too", x.told(0, 0), -3);
        check.due("told is BAD first", x.told(1, 0), -1);
        check.due("papers", x.count(2), 10);
    }

    private static void told() {
        WhatWasSaid x = meeting(2, 105, 13, 206, 21, 307);
        Check.write(x, "0", 0, 7);
        check.due("told", x.told(0, 5), 0);
        check.due("the row", Check.rowOf(x, 0), 0x102);
        check.due("its writer", x.page(0, 1), 0);
        check.due("once even by self", x.page(0, 102), 5);
        check.due("no habits", x.page(0, 101), 2);
        check.due("nobody's", x.told(-1, 7), 1);
        check.due("its writer", x.page(1, 1), -1);
        check.due("none", x.told(-1, 0), 2);
        check.due("writer -2", x.told(-2, 0), -1);
        check.due("writer 1", x.told(1, 0), -1);
        check.due("bits -1", x.told(0, -1), -1);
        check.due("bits 8", x.told(0, 8), -1);
        check.due("bits of the sign", x.told(0, Integer.MIN_VALUE), -1);
        check.due("papers", x.count(2), 3);
    }

    private static void add() {
        WhatWasSaid x = meeting(2, 105, 13, 206, 21, 307, 30, 408);
        x.told(-1, 2);
        check.due("ahead", x.add(0, 0, 0), 2);
        check.due("behind", x.add(0, 3, 2), 3);
        check.due("between", x.add(0, 2, 1), 4);
        check.due("the row", Check.rowOf(x, 0), 0x10213);
        check.due("added", x.page(0, 103), 1);
        check.due("added", x.page(0, 203), 1);
        check.due("not added", x.page(0, 303), 0);
        check.due("added", x.page(0, 403), 1);
        check.due("its sort", x.page(0, 201), 1);
        check.due("its length", x.page(0, 202), 7);
        for (int saying = 0; saying < 4; saying++) {
            check.due("it has " + saying, x.add(0, saying, 0), -1);
        }
        x.told(-1, 1);
        int[][] bad = {{-1, 1, 0}, {2, 1, 0}, {1, -1, 0}, {1, 4, 0}, {1, 1, -1}, {1, 1, 2}};
        for (int[] call : bad) {
            check.due("add(" + call[0] + ", " + call[1] + ", " + call[2] + ")",
                    x.add(call[0], call[1], call[2]), -1);
        }
        check.due("as it was", Check.rowOf(x, 1), 0x10);
        WhatWasSaid y = meeting(0, 101, 0, 102);
        Check.write(y, "100", 0, 1);
        y.take(0, 0);
        check.due("one that was joined away", y.add(0, 1, 1), 2);
        check.due("once by self, added", y.page(0, 202), 2);
        y.strike(0, 1);
        y.told(-1, 2);
        y.add(1, 0, 1);
        check.due("an entry told after one was added is not", y.page(1, 103), 0);
    }

    private static void strike() {
        WhatWasSaid x = meeting(2, 105, 13, 206, 21, 307);
        x.told(-1, 7);
        check.due("place -1", x.strike(0, -1), -1);
        check.due("place 3", x.strike(0, 3), -1);
        check.due("paper 1", x.strike(1, 0), -1);
        check.due("paper -1", x.strike(-1, 0), -1);
        check.due("the one between", x.strike(0, 1), 2);
        check.due("the row", Check.rowOf(x, 0), 0x102);
        check.due("the length moved too", x.page(0, 202), 7);
        check.due("the last", x.strike(0, 1), 1);
        check.due("the only one", x.strike(0, 0), 0);
        check.due("none is there", x.strike(0, 0), -1);
    }

    private static void read() {
        WhatWasSaid x = meeting(32, 105, 30, 206, 42, 307, 32, 408, 33, 509);
        x.told(-1, 31);
        check.due("who -1", x.read(0, -1), -1);
        check.due("who 11", x.read(0, 11), -1);
        check.due("paper 1", x.read(1, 3), -1);
        check.due("two fell", x.read(0, 3), 2);
        check.due("the row", Check.rowOf(x, 0), 0x1124);
        check.due("twice", x.page(0, 102), 12);
        check.due("another's stays", x.page(0, 202), 7);
        check.due("another's against stays", x.page(0, 201), 2);
        check.due("twice", x.page(0, 302), 18);
        check.due("by one who said nothing", x.read(0, 10), 0);
        check.due("again", x.read(0, 3), 0);
        check.due("four times", x.page(0, 102), 24);
        x.mend(2, 0, 5);
        check.due("by the one who it is now", x.read(0, 5), 1);
        x.mend(1, 0, 0);
        check.due("by 0", x.read(0, 0), 0);
        check.due("by 0 twice", x.page(0, 102), 48);
    }

    private static void readAtMost() {
        WhatWasSaid x = meeting(30, 30);
        x.told(-1, 1);
        for (int i = 0; i < 5; i++) {
            x.read(0, 3);
        }
        check.due("32 times", x.page(0, 102), 960);
        x.read(0, 3);
        check.due("at most", x.page(0, 102), 999);
        x.read(0, 3);
        check.due("still", x.page(0, 102), 999);
    }

    private static void cut() {
        WhatWasSaid x = meeting(0, 105, 0, 203, 0, 303, 0, 405, 0, 503);
        x.told(-1, 31);
        check.due("n -1", x.cut(0, -1), -1);
        check.due("n 17", x.cut(0, 17), -1);
        check.due("paper 1", x.cut(1, 0), -1);
        check.due("n 16", x.cut(0, 16), 0);
        check.due("n 5", x.cut(0, 5), 0);
        check.due("the last of the least", x.cut(0, 4), 1);
        check.due("the row", Check.rowOf(x, 0), 0x10123);
        check.due("two more", x.cut(0, 2), 2);
        check.due("the row", Check.rowOf(x, 0), 0x103);
        check.due("of like ones the last", x.cut(0, 1), 1);
        check.due("the row", Check.rowOf(x, 0), 0x10);
        check.due("all", x.cut(0, 0), 1);
        check.due("none left", x.page(0, 0), 0);
        check.due("none falls", x.cut(0, 0), 0);
        WhatWasSaid y = meeting(0, 105, 10, 203);
        y.told(-1, 3);
        y.read(0, 1);
        y.cut(0, 1);
        check.due("by the entry's length", Check.rowOf(y, 0), 0x11);
    }

    private static void page() {
        WhatWasSaid x = meeting(2, 105, 13, 206, 21, 307);
        x.told(-1, 6);
        x.add(0, 0, 2);
        int[] what = {0, 1, 2, 3, 100, 101, 102, 103, 200, 201, 202, 203, 300, 301, 302, 303};
        int[] due = {3, -1, 7, 18, 1, 3, 6, 0, 2, 1, 7, 0, 0, 2, 5, 1};
        for (int i = 0; i < what.length; i++) {
            check.due("page(0, " + what[i] + ")", x.page(0, what[i]), due[i]);
        }
        int[] bad = {-1, 4, 99, 104, 199, 304, 400, 403, 1700, -100, -97, Integer.MIN_VALUE, Integer.MAX_VALUE};
        for (int i : bad) {
            check.due("page(0, " + i + ")", x.page(0, i), -2000000000);
        }
        check.due("paper 1", x.page(1, 0), -2000000000);
        check.due("paper -1", x.page(-1, 0), -2000000000);
    }

    private static void led() {
        WhatWasSaid x = meeting(2, 105, 13, 206, 21, 307);
        x.told(-1, 6);
        check.due("the first", x.led(0, 1), 0);
        check.due("the second", x.led(0, 2), 1);
        check.due("none", x.led(0, 0), -2);
        check.due("saying 3", x.led(0, 3), -1);
        check.due("saying -1", x.led(0, -1), -1);
        check.due("paper 1", x.led(1, 0), -1);
        x.add(0, 0, 0);
        check.due("moved on", x.led(0, 2), 2);
    }
}
