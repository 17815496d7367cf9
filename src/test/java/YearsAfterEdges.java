import static java.lang.Integer.MAX_VALUE;
import static java.lang.Integer.MIN_VALUE;

/** The boundary cases of what is known years after: promises 17 to 26, and what the terms say of them. */
final class YearsAfterEdges {
    private final Edges e;

    YearsAfterEdges(Edges e) {
        this.e = e;
    }

    void tell() {
        sureAndOnly();
        fight();
        order();
        said();
        whose();
        learnt();
        asleep();
        ask();
        years();
    }

    private void sureAndOnly() {
        e.at(Edges.TERMS, "in how many of those of unlike WRITERS", this::unlikeWriters);
        e.at(Edges.TERMS, "SAYINGS (bits) that just one PAPER has", this::justOne);
        e.at(17, "how many PAPERS have a SAYING (what 0)", this::howManyPapers);
        e.at(17, "nobody's are none", this::nobodysAreNone);
        e.at(17, "BAD", this::sureBad);
        e.at(18, "SAYINGS as bits", this::onlyBits);
    }

    private void unlikeWriters() {
        WhatWasSaid x = Edges.meeting(1);
        for (int i = 0; i < 4; i++) {
            Check.write(x, "5", 0, 0);
        }
        e.due("no papers", x.sure(0, 1), 0);
        int[] writers = {3, 3, 0, 3, 1, 0, 2, 2};
        int[] due = {1, 1, 2, 2, 3, 3, 4, 4};
        for (int i = 0; i < writers.length; i++) {
            x.told(writers[i], 1);
            e.due("writers of " + (1 + i) + " papers", x.sure(0, 1), due[i]);
        }
        x.strike(4, 0);
        e.due("the one paper of a writer has it no more", x.sure(0, 1), 3);
        x.strike(0, 0);
        e.due("one of three of a writer", x.sure(0, 1), 3);
        x.told(1, 1);
        x.told(-1, 1);
        e.due("writers of ten papers", x.sure(0, 1), 4);
        e.due("the tenth is nobody's", x.sure(0, 0), 8);
    }

    private void justOne() {
        WhatWasSaid x = Edges.meeting(3);
        x.told(-1, 0);
        e.due("no paper has any", x.only(), 0);
        x.told(-1, 7);
        e.due("one has all", x.only(), 7);
        x.told(-1, 2);
        e.due("two have the second", x.only(), 5);
        x.told(-1, 3);
        e.due("three have it, two the first", x.only(), 4);
        x.strike(1, 2);
        e.due("none has the last", x.only(), 0);
        x.strike(3, 0);
        e.due("one has the first again", x.only(), 1);
    }

    private void howManyPapers() {
        WhatWasSaid x = Edges.meeting(16);
        e.due("no papers", x.sure(15, 0), 0);
        for (int i = 1; i <= 10; i++) {
            x.told(-1, 1 << 15);
            e.due("the last saying in " + i, x.sure(15, 0), i);
            e.due("the first saying in none", x.sure(0, 0), 0);
        }
        WhatWasSaid y = Edges.said(0, 101, 0, 101);
        Check.write(y, "100", 9, 1);
        y.take(0, 0);
        e.due("as a first saying", y.sure(0, 0), 1);
        e.due("not one that was joined away", y.sure(1, 0), 0);
    }

    private void nobodysAreNone() {
        WhatWasSaid x = Edges.meeting(1);
        Check.write(x, "5", 0, 0);
        x.told(-1, 1);
        e.due("nobody's alone", x.sure(0, 1), 0);
        x.told(0, 1);
        x.told(-1, 1);
        e.due("one writer's beside", x.sure(0, 1), 1);
        e.due("all count as papers", x.sure(0, 0), 3);
    }

    private void sureBad() {
        WhatWasSaid x = Edges.meeting(2);
        for (int saying : new int[] {MIN_VALUE, -1, 2, 16, MAX_VALUE}) {
            e.due("saying " + saying, x.sure(saying, 0), -1);
            e.due("saying " + saying, x.sure(saying, 1), -1);
        }
        for (int what : new int[] {MIN_VALUE, -1, 2, 3, MAX_VALUE}) {
            e.due("what " + what, x.sure(0, what), -1);
        }
        e.due("nothing was said", new WhatWasSaid().sure(0, 0), -1);
    }

    private void onlyBits() {
        WhatWasSaid x = Edges.meeting(16);
        e.due("no papers", x.only(), 0);
        x.told(-1, 65535);
        e.due("all sixteen", x.only(), 65535);
        x.told(-1, 0x7ffe);
        e.due("the first and the last", x.only(), 0x8001);
        e.due("no sayings", new WhatWasSaid().only(), 0);
    }

    private void fight() {
        e.at(Edges.TERMS, "pairs of SAYINGS that both have in unlike orders: how many; "
                + "the first such pair (by numbers)", this::unlikeOrders);
        e.at(19, "how many pairs (what 0), the first (1: 100 times the lesser SAYING, and the other; NOT)",
                this::firstPair);
        e.at(19, "BAD (one and the same)", this::fightBad);
    }

    private void unlikeOrders() {
        WhatWasSaid x = Edges.meeting(16);
        Check.paper(x, 0, 1, 2, 3, 4, 5, 6, 7, 8, 9, 10, 11, 12, 13, 14, 15);
        Check.paper(x, 15, 14, 13, 12, 11, 10, 9, 8, 7, 6, 5, 4, 3, 2, 1, 0);
        Check.paper(x, 15, 2, 4);
        Check.paper(x, 9);
        Check.paper(x);
        e.due("all pairs of sixteen", x.fight(1, 0), 120);
        e.due("pairs that both have", x.fight(2, 0), 2);
        e.due("in like order", x.fight(12, 0), 1);
        e.due("the one that is not", x.fight(12, 1), 204);
        for (int pq : new int[] {3, 30, 13, 31}) {
            e.due("one saying makes no pair, " + pq, x.fight(pq, 0), 0);
        }
        for (int pq : new int[] {4, 40, 14, 41, 23, 32}) {
            e.due("they share none, " + pq, x.fight(pq, 0), 0);
        }
        e.due("all pairs of sixteen, the other way round", x.fight(10, 0), 120);
        e.due("pairs that both have, the other way round", x.fight(20, 0), 2);
    }

    private void firstPair() {
        WhatWasSaid x = Edges.meeting(16);
        Check.paper(x, 0, 1, 2, 14, 15);
        Check.paper(x, 15, 14, 0, 1, 2);
        Check.paper(x, 2, 1, 15, 0);
        Check.paper(x, 15, 14);
        Check.paper(x, 0, 2, 1);
        e.due("by the lesser, then by the other", x.fight(1, 1), 14);
        e.due("the other way round", x.fight(10, 1), 14);
        e.due("0 and 1", x.fight(2, 1), 1);
        e.due("0 and 1, the other way round", x.fight(20, 1), 1);
        e.due("the last two", x.fight(3, 1), 1415);
        e.due("the other way round", x.fight(30, 1), 1415);
        e.due("1 and 2", x.fight(4, 1), 102);
        e.due("in like order", x.fight(13, 1), -2);
        e.due("they share none", x.fight(34, 1), -2);
        e.due("they share none: how many", x.fight(34, 0), 0);
    }

    private void fightBad() {
        WhatWasSaid x = Edges.meeting(2);
        e.due("no papers", x.fight(1, 0), -1);
        x.told(-1, 3);
        x.told(-1, 3);
        for (int pq : new int[] {0, 11}) {
            e.due("one and the same " + pq, x.fight(pq, 0), -1);
            e.due("one and the same " + pq, x.fight(pq, 1), -1);
        }
        for (int pq : new int[] {MIN_VALUE, -10, -1, 2, 12, 20, 21, 22, 99, 100, 101, 110, 1001, MAX_VALUE}) {
            e.due("papers " + pq, x.fight(pq, 0), -1);
        }
        for (int what : new int[] {MIN_VALUE, -1, 2, MAX_VALUE}) {
            e.due("what " + what, x.fight(1, what), -1);
        }
        e.due("two that are there", x.fight(10, 0), 0);
        for (int i = 2; i < 10; i++) {
            x.told(-1, 0);
        }
        e.due("the last one and the first", x.fight(90, 0), 0);
        e.due("the last one and itself", x.fight(99, 0), -1);
        e.due("no tenth", x.fight(109, 0), -1);
    }

    private void order() {
        e.at(Edges.TERMS, "ORDER: the row of all SAYINGS that any PAPER has", this::thatAnyHas);
        e.at(Edges.TERMS, "each time that which is ahead of most others that are left", this::mostThatAreLeft);
        e.at(Edges.TERMS, "(a pair counts, if more PAPERS have it ahead than behind; of like ones the least)",
                this::morePapersAhead);
        e.at(20, "BAD (none such)", this::orderBad);
    }

    private void dueOrder(String name, WhatWasSaid x, int... row) {
        for (int i = 0; i < row.length; i++) {
            e.due(name + ", place " + i, x.order(i), row[i]);
        }
        e.due(name + ", behind the last", x.order(row.length), -1);
    }

    private void thatAnyHas() {
        WhatWasSaid x = Edges.meeting(16);
        dueOrder("no papers", x);
        Check.paper(x);
        dueOrder("a paper of none", x);
        Check.paper(x, 15);
        dueOrder("one saying", x, 15);
        Check.paper(x, 7);
        dueOrder("two that no paper has both", x, 7, 15);
        x.strike(2, 0);
        dueOrder("one again", x, 15);
        for (int i = 3; i < 10; i++) {
            Check.paper(x, i, 15);
        }
        dueOrder("ten papers", x, 3, 4, 5, 6, 7, 8, 9, 15);
    }

    private void mostThatAreLeft() {
        WhatWasSaid x = Edges.meeting(7);
        Check.paper(x, 6, 0, 1);
        Check.paper(x, 5, 2, 3, 4);
        dueOrder("5 is ahead of three, 2 and 6 of two, 0 and 3 of one", x, 5, 2, 6, 0, 3, 1, 4);
        WhatWasSaid y = Edges.meeting(10);
        Check.paper(y, 5, 0, 1, 2);
        Check.paper(y, 4, 5);
        Check.paper(y, 4, 6);
        Check.paper(y, 7, 8, 9);
        dueOrder("4 is ahead of two, but of one that is left once 5 is gone", y, 5, 0, 7, 1, 4, 8, 2, 6, 9);
    }

    private void morePapersAhead() {
        WhatWasSaid x = Edges.meeting(3);
        Check.paper(x, 2, 1);
        dueOrder("one ahead", x, 2, 1);
        Check.paper(x, 1, 2);
        dueOrder("as many ahead as behind: the least", x, 1, 2);
        Check.paper(x, 2);
        dueOrder("a paper of one of them does not count", x, 1, 2);
        Check.paper(x, 2, 0, 1);
        dueOrder("two ahead, one behind", x, 2, 0, 1);
        WhatWasSaid y = Edges.meeting(8);
        Check.paper(y, 4, 5);
        Check.paper(y, 5, 4);
        Check.paper(y, 6, 7);
        dueOrder("4 and 5 are ahead of none, 6 of one", y, 6, 4, 5, 7);
        WhatWasSaid z = Edges.meeting(4);
        Check.paper(z, 1, 2);
        Check.paper(z, 1, 2);
        Check.paper(z, 2, 1);
        Check.paper(z, 2, 3);
        dueOrder("1 is ahead of 2, and 2 of 3 alone", z, 1, 2, 3);
        WhatWasSaid w = Edges.meeting(3);
        Check.paper(w, 1, 0);
        dueOrder("1 ahead, asked more than once", w, 1, 0);
        Check.paper(w, 0, 1);
        Check.paper(w, 0, 1);
        Check.paper(w, 1, 2);
        dueOrder("1 is behind now: what was asked before does not count", w, 0, 1, 2);
    }

    private void orderBad() {
        WhatWasSaid x = Edges.meeting(16);
        x.told(-1, 65535);
        e.due("the last of sixteen", x.order(15), 15);
        for (int i : new int[] {MIN_VALUE, -16, -1, 16, 17, MAX_VALUE}) {
            e.due("order(" + i + ")", x.order(i), -1);
        }
        x.strike(0, 3);
        e.due("the last of fifteen", x.order(14), 15);
        e.due("behind it", x.order(15), -1);
    }

    private void said() {
        e.at(Edges.TERMS, "PRIOR (1 .. 99 of 100)", this::priors);
        e.at(Edges.TERMS, "each that has it HEED, each that has not 100 less HEED, if it was said; "
                + "if it was not: each that has it 0, each that has not 100", this::hasAndHasNot);
        e.at(Edges.TERMS, "in lowest terms (0 by 1, if that is 0)", this::lowestTerms);
        e.at(Edges.TERMS, "(PAPERS of at most 7 WRITTEN ones count, the first ones.)", this::sevenWritten);
        e.at(21, "part 0 above, 1 below the line", this::parts);
        e.at(21, "Long.MIN_VALUE: BAD", this::saidBad);
    }

    private void odds(String name, WhatWasSaid x, int prior, long above, long below) {
        e.due(name + ", above", x.said(0, prior, 0), above);
        e.due(name + ", below", x.said(0, prior, 1), below);
    }

    private void priors() {
        WhatWasSaid x = Edges.meeting(1);
        odds("prior 1", x, 1, 1, 100);
        odds("prior 2", x, 2, 1, 50);
        odds("prior 50", x, 50, 1, 2);
        odds("prior 98", x, 98, 49, 50);
        odds("prior 99", x, 99, 99, 100);
        for (int prior : new int[] {MIN_VALUE, -1, 0, 100, 101, MAX_VALUE}) {
            odds("prior " + prior, x, prior, Long.MIN_VALUE, Long.MIN_VALUE);
        }
    }

    private void hasAndHasNot() {
        for (int heed : new int[] {0, 1, 50, 99, 100}) {
            WhatWasSaid x = Edges.meeting(2);
            Check.write(x, "" + heed, 0, 0);
            x.told(0, 1);
            odds("one that has it, by heed " + heed, x, 30, heed == 0 ? 0 : 1, 1);
            WhatWasSaid y = Edges.meeting(2);
            Check.write(y, "" + heed, 0, 0);
            y.told(0, 2);
            long above = 30 * (100 - heed);
            long below = above + 70 * 100;
            long common = java.math.BigInteger.valueOf(above).gcd(java.math.BigInteger.valueOf(below)).longValue();
            odds("one that has it not, by heed " + heed, y, 30, above / common, below / common);
        }
        WhatWasSaid z = Edges.meeting(1);
        Check.write(z, "80", 0, 0);
        z.told(0, 1);
        z.told(0, 0);
        odds("one that has it, one that has not", z, 1, 1, 1);
        z.strike(0, 0);
        odds("two that have it not", z, 50, 1, 26);
    }

    private void lowestTerms() {
        WhatWasSaid x = Edges.meeting(1);
        Check.write(x, "100", 0, 0);
        x.told(0, 0);
        odds("0 above, not 0 below", x, 50, 0, 1);
        odds("0 above, not 0 below", x, 99, 0, 1);
        WhatWasSaid y = Edges.meeting(1);
        Check.write(y, "0", 0, 0);
        y.told(0, 1);
        odds("0 above and 0 below", y, 50, 0, 1);
        odds("0 above and 0 below", y, 1, 0, 1);
        WhatWasSaid z = Edges.meeting(1);
        Check.write(z, "20", 0, 0);
        z.told(0, 0);
        odds("4880 by 8780", z, 61, 244, 439);
        odds("80 by 10000 less 20", z, 1, 4, 499);
    }

    private void sevenWritten() {
        WhatWasSaid x = Edges.meeting(1);
        Check.write(x, "99", 0, 0);
        Check.write(x, "50", 0, 0);
        for (int i = 0; i < 7; i++) {
            x.told(0, 0);
        }
        long hundredToSeven = 100000000000000L;
        odds("seven at the least", x, 50, 1, 1 + hundredToSeven);
        odds("seven at the least, by the greatest prior", x, 99, 99, 99 + hundredToSeven);
        x.told(1, 0);
        odds("an eighth that has it not", x, 50, 1, 1 + hundredToSeven);
        x.told(1, 1);
        odds("a ninth that has it", x, 50, 1, 1 + hundredToSeven);
        WhatWasSaid y = Edges.meeting(1);
        Check.write(y, "99", 0, 0);
        Check.write(y, "50", 0, 0);
        y.told(-1, 0);
        for (int i = 0; i < 6; i++) {
            y.told(0, 0);
        }
        y.told(-1, 1);
        odds("six, and nobody's", y, 50, 1, 1 + hundredToSeven / 100);
        y.told(1, 1);
        odds("the seventh written one has it", y, 50, 1, 1);
        y.strike(8, 0);
        odds("the seventh written one has it not", y, 50, 1, 1 + hundredToSeven / 50);
    }

    private void parts() {
        WhatWasSaid x = Edges.meeting(2);
        e.due("above", x.said(1, 30, 0), 3);
        e.due("below", x.said(1, 30, 1), 10);
    }

    private void saidBad() {
        WhatWasSaid x = Edges.meeting(2);
        for (int saying : new int[] {MIN_VALUE, -1, 2, 16, MAX_VALUE}) {
            e.due("saying " + saying, x.said(saying, 50, 0), Long.MIN_VALUE);
        }
        for (int part : new int[] {MIN_VALUE, -1, 2, 3, MAX_VALUE}) {
            e.due("part " + part, x.said(0, 50, part), Long.MIN_VALUE);
        }
        for (int prior : new int[] {MIN_VALUE, 0, 100, MAX_VALUE}) {
            e.due("prior " + prior, x.said(0, prior, 1), Long.MIN_VALUE);
        }
        e.due("nothing was said", new WhatWasSaid().said(0, 50, 0), Long.MIN_VALUE);
    }

    private void whose() {
        e.at(Edges.TERMS, "the product over all SAYINGS of HEED, if it has it, else 100 less HEED, each by 100 "
                + "(cut, of 1000000000)", this::cutProduct);
        e.at(Edges.TERMS, "of like ones the first; 0 with all: NOT.", this::firstOrNot);
        e.at(22, "BAD", this::whoseBad);
        e.at(22, "STATE: no WRITERS", this::whoseState);
        e.at(22, "NOT", this::whoseNot);
    }

    private void cutProduct() {
        WhatWasSaid x = Edges.meeting(16);
        Check.write(x, "i<4?1;i=4?9;100", 0, 0);
        x.told(-1, 65535);
        e.due("10 times 9 by 100 is cut to 0, and stays so", x.whose(0), -2);
        WhatWasSaid y = Edges.meeting(5);
        Check.write(y, "i<4?1;10", 0, 0);
        y.told(-1, 15);
        e.due("10 times 90 by 100 is 9", y.whose(0), 0);
        Check.write(y, "1", 0, 0);
        e.due("10 times 99 by 100 is cut to 9 as well", y.whose(0), 0);
        Check.write(y, "i<4?1;0", 0, 0);
        e.due("10 times 100 by 100 is more", y.whose(0), 2);
        WhatWasSaid z = Edges.meeting(5);
        Check.write(z, "1", 0, 0);
        z.told(-1, 31);
        e.due("10 times 1 by 100 is cut to 0", z.whose(0), -2);
        z.strike(0, 0);
        e.due("in place of it 99", z.whose(0), 0);
        WhatWasSaid w = Edges.meeting(4);
        Check.write(w, "i<2?1;10", 0, 0);
        w.told(-1, 15);
        Check.write(w, "i=0?100;1", 0, 0);
        e.due("a thousand of 1000000000 each", w.whose(0), 0);
        Check.write(w, "i=0?100;i=1?2;1", 0, 0);
        e.due("two thousand", w.whose(0), 2);
        WhatWasSaid v = Edges.meeting(5);
        Check.write(v, "i=0?4;i<3?1;i=3?6;15", 0, 0);
        Check.write(v, "i=0?2;i<3?1;i=3?26;7", 0, 0);
        v.told(-1, 31);
        e.due("240 times 15 by 100, and 520 times 7 by 100, cut", v.whose(0), 0);
    }

    private void firstOrNot() {
        WhatWasSaid x = Edges.meeting(1);
        Check.write(x, "0", 0, 0);
        x.told(-1, 1);
        e.due("0 with the only one", x.whose(0), -2);
        Check.write(x, "40", 0, 0);
        e.due("the only one that is not 0", x.whose(0), 1);
        Check.write(x, "40", 0, 0);
        e.due("of like ones the first", x.whose(0), 1);
        Check.write(x, "41", 0, 0);
        e.due("a higher one behind", x.whose(0), 3);
        WhatWasSaid least = Edges.meeting(5);
        Check.write(least, "0", 0, 0);
        Check.write(least, "i<4?1;10", 0, 0);
        least.told(-1, 31);
        e.due("1 of 1000000000 is not 0", least.whose(0), 1);
        WhatWasSaid none = new WhatWasSaid();
        Check.write(none, "0", 0, 0);
        Check.write(none, "100", 0, 0);
        none.told(-1, 0);
        e.due("of no sayings all are like", none.whose(0), 0);
    }

    private void whoseBad() {
        WhatWasSaid x = Edges.meeting(1);
        e.due("no paper", x.whose(0), -1);
        Check.write(x, "50", 0, 0);
        e.due("no paper, but a writer", x.whose(0), -1);
        x.told(-1, 1);
        for (int paper : new int[] {MIN_VALUE, -1, 1, 9, 10, MAX_VALUE}) {
            e.due("paper " + paper, x.whose(paper), -1);
        }
        e.due("the paper", x.whose(0), 0);
    }

    private void whoseState() {
        WhatWasSaid x = Edges.meeting(1);
        x.told(-1, 1);
        e.due("no writers", x.whose(0), -5);
        e.due("BAD is named ahead of it", x.whose(1), -1);
        Check.write(x, "1w", 0, 0);
        e.due("a faulty text makes none", x.whose(0), -5);
        Check.write(x, "1", 0, 0);
        e.due("one writer", x.whose(0), 0);
    }

    private void whoseNot() {
        WhatWasSaid x = Edges.meeting(2);
        Check.write(x, "i=0?100;0", 0, 0);
        Check.write(x, "i=1?100;0", 0, 0);
        x.told(-1, 3);
        x.told(-1, 0);
        x.told(-1, 2);
        e.due("all of them, which neither would", x.whose(0), -2);
        e.due("none of them, which neither would", x.whose(1), -2);
        e.due("just what the second would", x.whose(2), 1);
    }

    private void learnt() {
        e.at(Edges.TERMS, "of WRITERS the one whose law is least OFF", this::leastOff);
        e.at(Edges.TERMS, "the sum over SAYINGS of the size of HEED times how many PAPERS were told, "
                + "less 100 for each of these that has it", this::off);
        e.at(23, "(bits, 1 or more)", this::oneOrMore);
        e.at(23, "BAD", this::learntBad);
        e.at(23, "STATE: no WRITERS", this::learntState);
    }

    /** Four writers, the least off at each place among them, and the others now rising, now falling. */
    private void leastOff() {
        String[][] heeds = {{"20", "30", "40", "50"}, {"30", "20", "50", "40"}, {"40", "50", "20", "30"},
            {"50", "30", "40", "20"}, {"30", "20", "20", "25"}};
        int[] due = {0, 1, 2, 3, 1};
        for (int i = 0; i < heeds.length; i++) {
            WhatWasSaid x = Edges.meeting(1);
            for (String heed : heeds[i]) {
                Check.write(x, heed, 0, 0);
            }
            x.told(-1, 0);
            e.due("the least off of row " + i, x.learnt(1, 0), due[i]);
            e.due("off of row " + i, x.learnt(1, 1), 20);
        }
    }

    private void off() {
        WhatWasSaid x = Edges.meeting(16);
        Check.write(x, "0", 0, 0);
        for (int i = 0; i < 10; i++) {
            x.told(-1, 65535);
        }
        e.due("the most there is", x.learnt(1023, 1), 16000);
        Check.write(x, "100", 0, 0);
        e.due("none off", x.learnt(1023, 1), 0);
        e.due("whose", x.learnt(1023, 0), 1);
        WhatWasSaid y = Edges.meeting(2);
        Check.write(y, "50", 0, 0);
        y.told(-1, 1);
        y.told(-1, 0);
        e.due("above and below are both off", y.learnt(1, 1), 100);
        e.due("half of the papers have it", y.learnt(3, 1), 100);
        Check.write(y, "50", 0, 0);
        e.due("of like ones the first", y.learnt(3, 0), 0);
        WhatWasSaid none = new WhatWasSaid();
        Check.write(none, "5", 0, 0);
        none.told(-1, 0);
        e.due("no sayings", none.learnt(1, 1), 0);
        e.due("no sayings", none.learnt(1, 0), 0);
    }

    private void oneOrMore() {
        WhatWasSaid x = Edges.meeting(1);
        Check.write(x, "30", 0, 0);
        for (int i = 0; i < 10; i++) {
            x.told(-1, i == 9 ? 1 : 0);
        }
        e.due("none", x.learnt(0, 0), -1);
        e.due("none", x.learnt(0, 1), -1);
        e.due("the first", x.learnt(1, 1), 30);
        e.due("the last", x.learnt(512, 1), 70);
        e.due("the first and the last", x.learnt(513, 1), 40);
        e.due("all", x.learnt(1023, 1), 200);
        e.due("one more", x.learnt(1024, 1), -1);
    }

    private void learntBad() {
        WhatWasSaid x = Edges.meeting(1);
        Check.write(x, "30", 0, 0);
        e.due("no papers", x.learnt(1, 0), -1);
        x.told(-1, 1);
        x.told(-1, 1);
        for (int papers : new int[] {MIN_VALUE, -1, 0, 4, 5, 7, 1024, MAX_VALUE}) {
            e.due("papers " + papers, x.learnt(papers, 0), -1);
        }
        for (int what : new int[] {MIN_VALUE, -1, 2, MAX_VALUE}) {
            e.due("what " + what, x.learnt(3, what), -1);
        }
        e.due("both papers", x.learnt(3, 1), 140);
    }

    private void learntState() {
        WhatWasSaid x = Edges.meeting(1);
        x.told(-1, 1);
        e.due("no writers", x.learnt(1, 0), -5);
        e.due("no writers", x.learnt(1, 1), -5);
        for (int papers : new int[] {-1, 0, 2}) {
            e.due("BAD is named ahead of it", x.learnt(papers, 0), -1);
        }
        e.due("BAD is named ahead of it", x.learnt(1, 2), -1);
        Check.write(x, "30", 0, 0);
        e.due("one writer", x.learnt(1, 0), 0);
    }

    private void asleep() {
        e.at(Edges.TERMS, "of like ones the first: the MINUTE of the first of these, that span "
                + "(0 and 0, if there is none)", this::longestRow);
        e.at(24, "the MINUTE (what 0), the span (1)", this::ends);
        e.at(24, "BAD", this::asleepBad);
    }

    private void dueAsleep(String name, WhatWasSaid x, int paper, int minute, int span) {
        e.due(name + ", minute", x.asleep(paper, 0), minute);
        e.due(name + ", span", x.asleep(paper, 1), span);
    }

    private void longestRow() {
        WhatWasSaid x = Edges.said(0, 4, 0, 1, 0, 4, 0, 1, 0, 2, 0, 2, 0, 1, 0, 5);
        x.told(-1, 0b01001010);
        dueAsleep("5 at the end, 4 and 2 and 2 ahead", x, 0, 15, 5);
        x.told(-1, 0b11001010);
        dueAsleep("4, 4, 2 and 2: of like ones the first", x, 1, 0, 4);
        x.told(-1, 0b11001011);
        dueAsleep("4, 2 and 2", x, 2, 5, 4);
        x.told(-1, 0b11111111);
        dueAsleep("none", x, 3, 0, 0);
        x.strike(3, 6);
        dueAsleep("one of a minute", x, 3, 14, 1);
        x.told(-1, 0);
        dueAsleep("all", x, 4, 0, 20);
        WhatWasSaid none = new WhatWasSaid();
        none.told(-1, 0);
        dueAsleep("no sayings", none, 0, 0, 0);
    }

    private void ends() {
        WhatWasSaid x = new WhatWasSaid();
        for (int i = 0; i < 16; i++) {
            x.saying(0, 30);
        }
        x.told(-1, 0x7fff);
        dueAsleep("the last", x, 0, 450, 30);
        x.told(-1, 0xfffe);
        dueAsleep("the first", x, 1, 0, 30);
        x.told(-1, 1);
        dueAsleep("all but the first", x, 2, 30, 450);
        x.told(-1, 0);
        dueAsleep("all", x, 3, 0, 480);
        x.told(-1, 0x8000);
        dueAsleep("all but the last", x, 4, 0, 450);
    }

    private void asleepBad() {
        WhatWasSaid x = Edges.meeting(1);
        e.due("no paper", x.asleep(0, 0), -1);
        x.told(-1, 0);
        for (int paper : new int[] {MIN_VALUE, -1, 1, 9, 10, MAX_VALUE}) {
            e.due("paper " + paper, x.asleep(paper, 0), -1);
        }
        for (int what : new int[] {MIN_VALUE, -1, 2, MAX_VALUE}) {
            e.due("what " + what, x.asleep(0, what), -1);
        }
    }

    private void ask() {
        e.at(Edges.TERMS, "the sum of 10000 less (100 less HEED) times (100 less HEED): "
                + "of like ones the least numbers; that sum", this::bestTwo);
        e.at(25, "10 times the one WRITER and the other (what 0), that sum (1)", this::askEnds);
        e.at(25, "BAD", this::askBad);
        e.at(25, "STATE: fewer than two", this::askState);
    }

    /** The one of all six pairs of four writers that takes most down. */
    private void bestTwo() {
        String[] high = {"60", "70"};
        for (int one = 0; one < 4; one++) {
            for (int other = one + 1; other < 4; other++) {
                WhatWasSaid x = Edges.meeting(1);
                for (int i = 0; i < 4; i++) {
                    Check.write(x, i == one ? high[0] : i == other ? high[1] : "59", 0, 0);
                }
                e.due("the best pair", x.ask(0), 10 * one + other);
                e.due("its sum", x.ask(1), 10000 - 40 * 30);
            }
        }
        WhatWasSaid like = Edges.meeting(2);
        for (int i = 0; i < 4; i++) {
            Check.write(like, "50", 0, 0);
        }
        e.due("of six like ones the least", like.ask(0), 1);
        WhatWasSaid two = Edges.meeting(1);
        Check.write(two, "0", 0, 0);
        Check.write(two, "50", 0, 0);
        Check.write(two, "50", 0, 0);
        Check.write(two, "50", 0, 0);
        e.due("of three like ones the least", two.ask(0), 12);
    }

    private void askEnds() {
        WhatWasSaid x = Edges.meeting(16);
        Check.write(x, "100", 0, 0);
        Check.write(x, "0", 0, 0);
        e.due("all is taken down", x.ask(1), 160000);
        e.due("by these", x.ask(0), 1);
        WhatWasSaid y = Edges.meeting(16);
        Check.write(y, "0", 0, 0);
        Check.write(y, "0", 0, 0);
        e.due("nothing is", y.ask(1), 0);
        e.due("by these", y.ask(0), 1);
        WhatWasSaid none = new WhatWasSaid();
        Check.write(none, "100", 0, 0);
        Check.write(none, "100", 0, 0);
        e.due("no sayings", none.ask(1), 0);
        e.due("no sayings", none.ask(0), 1);
    }

    private void askBad() {
        WhatWasSaid x = Edges.meeting(1);
        for (int what : new int[] {MIN_VALUE, -1, 2, MAX_VALUE}) {
            e.due("what " + what + ", no writers", x.ask(what), -1);
        }
        Check.write(x, "1", 0, 0);
        Check.write(x, "1", 0, 0);
        for (int what : new int[] {MIN_VALUE, -1, 2, MAX_VALUE}) {
            e.due("what " + what, x.ask(what), -1);
        }
    }

    private void askState() {
        WhatWasSaid x = Edges.meeting(1);
        for (int what = 0; what < 2; what++) {
            e.due("none", x.ask(what), -5);
        }
        Check.write(x, "1", 0, 0);
        for (int what = 0; what < 2; what++) {
            e.due("one", x.ask(what), -5);
        }
        Check.write(x, "1", 0, 0);
        e.due("two", x.ask(0), 1);
        e.due("two", x.ask(1), 199);
    }

    private void years() {
        e.at(Edges.TERMS, "of HEED is left HEED times (100 less YEARS (0 .. 99)) by 100 (cut): "
                + "how much of all SAYINGS' HEED is left", this::left);
        e.at(26, "BAD", this::yearsBad);
    }

    private void left() {
        WhatWasSaid x = Edges.meeting(16);
        Check.write(x, "100", 0, 0);
        Check.write(x, "99", 0, 0);
        Check.write(x, "i=3?1;0", 0, 0);
        e.due("0 years of 100", x.years(0, 0), 1600);
        e.due("1 year of 100", x.years(0, 1), 16 * 99);
        e.due("99 years of 100", x.years(0, 99), 16);
        e.due("0 years of 99", x.years(1, 0), 16 * 99);
        e.due("1 year of 99: each cut", x.years(1, 1), 16 * 98);
        e.due("98 years of 99: each cut", x.years(1, 98), 16);
        e.due("99 years of 99: each cut", x.years(1, 99), 0);
        e.due("0 years of a single 1", x.years(2, 0), 1);
        e.due("1 year of a single 1", x.years(2, 1), 0);
        WhatWasSaid none = new WhatWasSaid();
        Check.write(none, "100", 0, 0);
        e.due("no sayings", none.years(0, 0), 0);
    }

    private void yearsBad() {
        WhatWasSaid x = Edges.meeting(1);
        e.due("no writers", x.years(0, 0), -1);
        Check.write(x, "100", 0, 0);
        for (int writer : new int[] {MIN_VALUE, -1, 1, 3, 4, MAX_VALUE}) {
            e.due("writer " + writer, x.years(writer, 0), -1);
        }
        for (int years : new int[] {MIN_VALUE, -1, 100, 101, MAX_VALUE}) {
            e.due("years " + years, x.years(0, years), -1);
        }
        e.due("99 years", x.years(0, 99), 1);
    }
}
