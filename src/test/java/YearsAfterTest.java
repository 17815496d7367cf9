/** Promises 17 to 26: what papers and laws tell years after. */
public final class YearsAfterTest {
    private static final Check check = new Check();

    public static void main(String[] args) {
        sure();
        only();
        fight();
        order();
        orderOfLikeOnes();
        said();
        saidBySeven();
        whose();
        whoseIsCut();
        learnt();
        asleep();
        ask();
        years();
        check.end();
    }

    private static WhatWasSaid meeting(int n) {
        WhatWasSaid x = new WhatWasSaid();
        for (int i = 0; i < n; i++) {
            x.saying(10 * (i % 11), 100 * (i % 8) + 1 + i);
        }
        return x;
    }

    private static void sure() {
        WhatWasSaid x = meeting(3);
        Check.write(x, "1", 0, 0);
        Check.write(x, "1", 0, 0);
        x.told(-1, 7);
        x.told(0, 3);
        x.told(0, 1);
        x.told(1, 1);
        x.told(-1, 1);
        check.due("papers", x.sure(0, 0), 5);
        check.due("writers", x.sure(0, 1), 2);
        check.due("papers", x.sure(1, 0), 2);
        check.due("writers", x.sure(1, 1), 1);
        check.due("nobody's is none", x.sure(2, 1), 0);
        check.due("papers", x.sure(2, 0), 1);
        check.due("what 2", x.sure(0, 2), -1);
        check.due("what -1", x.sure(0, -1), -1);
        check.due("saying 3", x.sure(3, 0), -1);
        check.due("saying -1", x.sure(-1, 0), -1);
    }

    private static void only() {
        WhatWasSaid x = meeting(16);
        check.due("no papers", x.only(), 0);
        x.told(-1, 0x8005);
        check.due("one paper", x.only(), 0x8005);
        x.told(-1, 0x8002);
        check.due("two papers", x.only(), 7);
        x.told(-1, 0x8001);
        check.due("three papers", x.only(), 6);
    }

    private static void fight() {
        WhatWasSaid x = meeting(16);
        Check.paper(x, 0, 1, 2, 3);
        Check.paper(x, 3, 2, 5, 1, 0);
        Check.paper(x, 1, 15, 2, 14);
        Check.paper(x, 14, 15);
        check.due("all pairs", x.fight(1, 0), 6);
        check.due("the first", x.fight(1, 1), 1);
        check.due("the other way round", x.fight(10, 0), 6);
        check.due("the other way round", x.fight(10, 1), 1);
        check.due("in like order", x.fight(2, 0), 0);
        check.due("none", x.fight(2, 1), -2);
        check.due("one pair", x.fight(12, 0), 1);
        check.due("which", x.fight(12, 1), 102);
        check.due("the last two", x.fight(32, 1), 1415);
        int[][] bad = {{0, 0}, {11, 0}, {4, 0}, {40, 0}, {14, 0}, {-1, 0}, {-10, 0}, {101, 0}, {110, 0}, {1, 2}, {1, -1},
            {Integer.MAX_VALUE, 0}, {Integer.MIN_VALUE, 0}};
        for (int[] call : bad) {
            check.due("fight(" + call[0] + ", " + call[1] + ")", x.fight(call[0], call[1]), -1);
        }
    }

    private static void dueOrder(String name, WhatWasSaid x, int... row) {
        for (int i = 0; i < row.length; i++) {
            check.due(name + ", place " + i, x.order(i), row[i]);
        }
        check.due(name + ", none more", x.order(row.length), -1);
        check.due(name + ", place -1", x.order(-1), -1);
    }

    private static void order() {
        WhatWasSaid x = meeting(6);
        dueOrder("no papers", x);
        Check.paper(x, 3, 1, 2);
        dueOrder("one paper", x, 3, 1, 2);
        Check.paper(x, 1, 2, 3);
        dueOrder("two papers", x, 1, 2, 3);
        Check.paper(x, 2, 3, 1);
        dueOrder("a ring", x, 1, 2, 3);
        Check.paper(x, 2, 3, 1);
        dueOrder("by most", x, 2, 3, 1);
        Check.paper(x, 5);
        dueOrder("one that is with none", x, 2, 3, 1, 5);
    }

    private static void orderOfLikeOnes() {
        WhatWasSaid x = meeting(6);
        Check.paper(x, 4, 5);
        Check.paper(x, 3, 2);
        dueOrder("of like ones the least", x, 3, 4, 2, 5);
        WhatWasSaid y = meeting(6);
        Check.paper(y, 0, 1);
        Check.paper(y, 5, 2, 3);
        dueOrder("ahead of most that are left", y, 5, 0, 2, 1, 3);
        y.strike(0, 0);
        y.add(0, 0, 1);
        dueOrder("a paper in another order", y, 5, 1, 2, 0, 3);
        WhatWasSaid z = meeting(16);
        Check.paper(z, 15, 14, 13, 12, 11, 10, 9, 8, 7, 6, 5, 4, 3, 2, 1, 0);
        dueOrder("all sixteen", z, 15, 14, 13, 12, 11, 10, 9, 8, 7, 6, 5, 4, 3, 2, 1, 0);
        check.due("far behind", z.order(Integer.MAX_VALUE), -1);
    }

    private static void dueSaid(String name, WhatWasSaid x, int saying, int prior, long above, long below) {
        check.due(name + " above", x.said(saying, prior, 0), above);
        check.due(name + " below", x.said(saying, prior, 1), below);
    }

    private static void said() {
        WhatWasSaid x = meeting(3);
        Check.write(x, "i=0?80;i=1?60;0", 0, 0);
        Check.write(x, "i=0?50;100", 0, 0);
        dueSaid("no papers", x, 0, 50, 1, 2);
        dueSaid("no papers", x, 0, 99, 99, 100);
        dueSaid("no papers", x, 0, 64, 16, 25);
        x.told(-1, 7);
        dueSaid("nobody's does not count", x, 0, 64, 16, 25);
        x.told(0, 0);
        dueSaid("one has it not", x, 0, 50, 1, 6);
        dueSaid("one who would never", x, 2, 50, 1, 2);
        x.told(1, 0);
        dueSaid("two have it not", x, 0, 50, 1, 11);
        dueSaid("one who would always", x, 2, 50, 0, 1);
        WhatWasSaid y = meeting(1);
        Check.write(y, "80", 0, 0);
        y.told(0, 1);
        dueSaid("the first paper has it", y, 0, 1, 1, 1);
        y.told(0, 0);
        dueSaid("one has it and one not", y, 0, 1, 1, 1);
        WhatWasSaid z = meeting(1);
        Check.write(z, "0", 0, 0);
        z.told(0, 1);
        dueSaid("the first paper has it who never would", z, 0, 99, 0, 1);
        x.told(1, 1);
        dueSaid("one has it", x, 0, 1, 1, 1);
        x.told(0, 4);
        dueSaid("one has it who never would", x, 2, 50, 0, 1);
        check.due("saying -1", x.said(-1, 50, 0), Long.MIN_VALUE);
        check.due("saying 3", x.said(3, 50, 0), Long.MIN_VALUE);
        check.due("prior 0", x.said(0, 0, 0), Long.MIN_VALUE);
        check.due("prior 100", x.said(0, 100, 0), Long.MIN_VALUE);
        check.due("part -1", x.said(0, 50, -1), Long.MIN_VALUE);
        check.due("part 2", x.said(0, 50, 2), Long.MIN_VALUE);
    }

    private static void saidBySeven() {
        WhatWasSaid x = meeting(1);
        Check.write(x, "1", 0, 0);
        Check.write(x, "2", 0, 0);
        x.told(-1, 0);
        for (int i = 0; i < 7; i++) {
            x.told(0, 0);
        }
        long said = 99L * 99 * 99 * 99 * 99 * 99 * 99;
        long not = 100L * 100 * 100 * 100 * 100 * 100 * 100;
        dueSaid("seven have it not", x, 0, 50, said, said + not);
        x.told(1, 0);
        dueSaid("the eighth does not count", x, 0, 50, said, said + not);
        x.told(1, 1);
        dueSaid("nor does the ninth", x, 0, 50, said, said + not);
    }

    private static void whose() {
        WhatWasSaid x = meeting(3);
        x.told(-1, 1);
        check.due("no writers", x.whose(0), -5);
        check.due("BAD ahead of STATE", x.whose(1), -1);
        check.due("paper -1", x.whose(-1), -1);
        Check.write(x, "i=0?90;20", 0, 0);
        Check.write(x, "i=0?20;90", 0, 0);
        x.told(-1, 6);
        x.told(1, 1);
        x.told(-1, 7);
        check.due("the first's", x.whose(0), 0);
        check.due("the second's", x.whose(1), 1);
        check.due("by the laws, not by whom", x.whose(2), 0);
        Check.write(x, "i=0?90;20", 0, 0);
        check.due("of like ones the first", x.whose(0), 0);
        Check.write(x, "i=0?91;20", 0, 0);
        check.due("a little more likely", x.whose(0), 3);
        WhatWasSaid v = meeting(16);
        v.told(-1, 0);
        Check.write(v, "1", 0, 0);
        Check.write(v, "i=7?100", 0, 0);
        Check.write(v, "0", 0, 0);
        check.due("of none at all", v.whose(0), 2);
        WhatWasSaid u = meeting(4);
        u.told(-1, 15);
        Check.write(u, "i=0?100;i=1?100;i=2?10;10", 0, 0);
        Check.write(u, "33", 0, 0);
        check.due("1 of 100 against 1.18", u.whose(0), 1);
        WhatWasSaid y = meeting(2);
        y.told(-1, 3);
        Check.write(y, "i=0?100;0", 0, 0);
        check.due("0 with all", y.whose(0), -2);
        Check.write(y, "1", 0, 0);
        check.due("the only one above 0", y.whose(0), 1);
        WhatWasSaid z = new WhatWasSaid();
        z.told(-1, 0);
        Check.write(z, "1", 0, 0);
        check.due("no sayings", z.whose(0), 0);
    }

    private static void whoseIsCut() {
        WhatWasSaid x = meeting(16);
        x.told(-1, 0xffff);
        Check.write(x, "1", 0, 0);
        check.due("cut to 0", x.whose(0), -2);
        Check.write(x, "10", 0, 0);
        check.due("cut to 0 too", x.whose(0), -2);
        Check.write(x, "30", 0, 0);
        check.due("not cut to 0", x.whose(0), 2);
        WhatWasSaid y = meeting(6);
        y.told(-1, 63);
        Check.write(y, "i<5?1;50", 0, 0);
        check.due("cut on the way", y.whose(0), -2);
    }

    private static void learnt() {
        WhatWasSaid x = meeting(3);
        check.due("no papers", x.learnt(1, 0), -1);
        x.told(-1, 3);
        check.due("no writers", x.learnt(1, 0), -5);
        check.due("BAD ahead of STATE", x.learnt(0, 0), -1);
        check.due("BAD ahead of STATE", x.learnt(2, 0), -1);
        check.due("BAD ahead of STATE", x.learnt(1, 2), -1);
        Check.write(x, "50", 0, 0);
        Check.write(x, "i=0?90;i=1?80;30", 0, 0);
        x.told(0, 1);
        check.due("one paper", x.learnt(1, 0), 1);
        check.due("off", x.learnt(1, 1), 10 + 20 + 30);
        check.due("two papers", x.learnt(3, 0), 1);
        check.due("off", x.learnt(3, 1), 20 + 60 + 60);
        check.due("the other one", x.learnt(2, 0), 1);
        check.due("off", x.learnt(2, 1), 10 + 80 + 30);
        x.told(-1, 4);
        check.due("a third", x.learnt(4, 0), 0);
        check.due("off", x.learnt(4, 1), 150);
        check.due("bits -1", x.learnt(-1, 0), -1);
        check.due("bits 8", x.learnt(8, 0), -1);
        check.due("what -1", x.learnt(1, -1), -1);
        check.due("what 2", x.learnt(1, 2), -1);
        WhatWasSaid y = meeting(1);
        y.told(-1, 1);
        Check.write(y, "40", 0, 0);
        Check.write(y, "40", 0, 0);
        check.due("of like ones the first", y.learnt(1, 0), 0);
        Check.write(y, "60", 0, 0);
        Check.write(y, "50", 0, 0);
        check.due("the least of four", y.learnt(1, 0), 2);
        check.due("its off", y.learnt(1, 1), 40);
    }

    private static void asleep() {
        WhatWasSaid x = new WhatWasSaid();
        int[] lengths = {5, 3, 4, 10, 2, 5, 5, 1};
        for (int length : lengths) {
            x.saying(0, length);
        }
        x.told(-1, 0b00010001);
        check.due("minute", x.asleep(0, 0), 5);
        check.due("span", x.asleep(0, 1), 17);
        x.told(-1, 0b10001001);
        check.due("minute of the longer", x.asleep(1, 0), 22);
        check.due("span of the longer", x.asleep(1, 1), 12);
        x.told(-1, 0b10010111);
        check.due("of like ones the first", x.asleep(2, 0), 12);
        check.due("of like ones the first", x.asleep(2, 1), 10);
        x.told(-1, 255);
        check.due("none", x.asleep(3, 0), 0);
        check.due("none", x.asleep(3, 1), 0);
        x.told(-1, 0);
        check.due("all", x.asleep(4, 0), 0);
        check.due("all", x.asleep(4, 1), 35);
        x.told(-1, 0x7f);
        check.due("the last", x.asleep(5, 0), 34);
        check.due("the last", x.asleep(5, 1), 1);
        check.due("paper 6", x.asleep(6, 0), -1);
        check.due("what 2", x.asleep(0, 2), -1);
        check.due("what -1", x.asleep(0, -1), -1);
    }

    private static void ask() {
        WhatWasSaid x = meeting(2);
        check.due("no writers", x.ask(0), -5);
        check.due("BAD ahead of STATE", x.ask(2), -1);
        check.due("what -1", x.ask(-1), -1);
        Check.write(x, "i=0?100;0", 0, 0);
        check.due("one writer", x.ask(0), -5);
        Check.write(x, "60", 0, 0);
        check.due("two writers", x.ask(0), 1);
        check.due("the sum", x.ask(1), 10000 + 6000);
        Check.write(x, "50", 0, 0);
        check.due("the first and the second still", x.ask(0), 1);
        Check.write(x, "i=1?100;0", 0, 0);
        check.due("two that fill each other's gaps", x.ask(0), 3);
        check.due("the sum", x.ask(1), 20000);
        WhatWasSaid y = meeting(0);
        for (int i = 0; i < 4; i++) {
            Check.write(y, "50", 0, 0);
        }
        check.due("no sayings: the least numbers", y.ask(0), 1);
        check.due("no sayings", y.ask(1), 0);
        WhatWasSaid z = meeting(1);
        Check.write(z, "0", 0, 0);
        Check.write(z, "0", 0, 0);
        Check.write(z, "100", 0, 0);
        Check.write(z, "90", 0, 0);
        check.due("of like ones the least", z.ask(0), 2);
        WhatWasSaid w = meeting(2);
        Check.write(w, "0", 0, 0);
        Check.write(w, "i=0?100;0", 0, 0);
        Check.write(w, "i=1?100;0", 0, 0);
        check.due("1 and 2", w.ask(0), 12);
        check.due("their sum", w.ask(1), 20000);
        Check.write(w, "i=1?100;10", 0, 0);
        check.due("still 1 and 2", w.ask(0), 12);
        WhatWasSaid v = meeting(1);
        Check.write(v, "0", 0, 0);
        Check.write(v, "0", 0, 0);
        Check.write(v, "30", 0, 0);
        Check.write(v, "40", 0, 0);
        check.due("2 and 3", v.ask(0), 23);
        check.due("their sum", v.ask(1), 5800);
    }

    private static void years() {
        WhatWasSaid x = meeting(4);
        Check.write(x, "i=0?99;i=1?50;i=2?1;0", 0, 0);
        check.due("none", x.years(0, 0), 150);
        check.due("each cut", x.years(0, 50), 49 + 25);
        check.due("each cut", x.years(0, 40), 59 + 30);
        check.due("99", x.years(0, 99), 0);
        check.due("98", x.years(0, 98), 1 + 1);
        check.due("years -1", x.years(0, -1), -1);
        check.due("years 100", x.years(0, 100), -1);
        check.due("writer 1", x.years(1, 0), -1);
        check.due("writer -1", x.years(-1, 0), -1);
    }
}
