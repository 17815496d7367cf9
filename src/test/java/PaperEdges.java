import static java.lang.Integer.MAX_VALUE;
import static java.lang.Integer.MIN_VALUE;

/** The boundary cases of papers: promises 9 to 16, and what the terms say of them. */
final class PaperEdges {
    private final Edges e;

    PaperEdges(Edges e) {
        this.e = e;
    }

    void tell() {
        taken();
        habits();
        told();
        amended();
        readAndCut();
        page();
    }

    private void row(String name, WhatWasSaid x, int paper, int... sayings) {
        e.due("entries of " + name, x.page(paper, 0), sayings.length);
        for (int i = 0; i < sayings.length; i++) {
            e.due("place " + i + " of " + name, x.page(paper, 100 * (1 + i)), sayings[i]);
        }
        e.due("behind the last of " + name, x.page(paper, 100 * (1 + sayings.length)), -2000000000);
    }

    /** The paper taken by a law of a meeting. */
    private static WhatWasSaid by(WhatWasSaid x, String text, int me, int habits) {
        Check.write(x, text, me, habits);
        x.take(x.count(1) - 1, 0);
        return x;
    }

    private void taken() {
        e.at(Edges.TERMS, "of 100, how likely it is taken down", this::neverAndAlways);
        e.at(Edges.TERMS, "A PAPER (0 .. 9, as they come)", this::tenPapers);
        e.at(Edges.TERMS, "z = z * 1103515245 + 12345 (an int; SEED at first)", this::drawsWrap);
        e.at(Edges.TERMS, "it is taken, if (z >>> 8) % 100 is below HEED", this::belowHeed);
        e.at(Edges.TERMS, "LONG (twice that, if it is by SELF)", this::twiceBySelf);
        e.at(9, "BAD", this::takeBad);
        e.at(9, "FULL", this::takeFull);
    }

    private void neverAndAlways() {
        for (int seed : new int[] {MIN_VALUE, -1, 0, 1, 99, MAX_VALUE}) {
            WhatWasSaid x = Edges.meeting(16);
            Check.write(x, "0", 10, 0);
            Check.write(x, "100", 10, 0);
            x.take(0, seed);
            e.due("never, by seed " + seed, x.page(0, 2), 0);
            x.take(1, seed);
            e.due("always, by seed " + seed, x.page(1, 2), 65535);
        }
        WhatWasSaid none = new WhatWasSaid();
        Check.write(none, "100", 0, 7);
        e.due("no sayings", none.take(0, 5), 0);
        e.due("no entries", none.page(0, 0), 0);
    }

    private void tenPapers() {
        WhatWasSaid x = Edges.meeting(4);
        Check.write(x, "100", 0, 0);
        for (int i = 0; i < 10; i++) {
            e.due("no paper " + i + " yet", x.page(i, 0), -2000000000);
            e.due("paper " + i, i % 2 == 0 ? x.take(0, i) : x.told(-1, i), i);
        }
        e.due("no paper 10", x.told(-1, 0), -3);
        e.due("page of 10", x.page(10, 0), -2000000000);
        for (int i = 0; i < 10; i++) {
            e.due("sayings of " + i, x.page(i, 2), i % 2 == 0 ? 15 : i);
        }
        e.due("ten", x.count(2), 10);
    }

    private void drawsWrap() {
        for (int seed : new int[] {MIN_VALUE, MIN_VALUE + 1, -12345, -1, 0, 1, 255, 256, MAX_VALUE - 1, MAX_VALUE}) {
            WhatWasSaid x = Edges.meeting(16);
            Check.write(x, "50", 10, 0);
            x.take(0, seed);
            long z = seed;
            int bits = 0;
            for (int i = 0; i < 16; i++) {
                z = z * 1103515245L + 12345L & 0xffffffffL;
                bits |= z / 256 % 100 < 50 ? 1 << i : 0;
            }
            e.due("sayings by seed " + seed, x.page(0, 2), bits);
        }
    }

    /** Takes the one saying by heed as high as its draw, and one higher. */
    private void belowHeed() {
        boolean[] seen = new boolean[100];
        int negative = 0;
        for (int seed = 0; seed < 3000; seed++) {
            int z = (int) (seed * 1103515245L + 12345L);
            int draw = (int) ((z & 0xffffffffL) / 256 % 100);
            boolean matters = z < 0 && negative < 20;
            if (seen[draw] && !matters) {
                continue;
            }
            seen[draw] = true;
            negative += matters ? 1 : 0;
            WhatWasSaid x = Edges.meeting(1);
            Check.write(x, "" + draw, 10, 0);
            Check.write(x, draw + "+1", 10, 0);
            x.take(0, seed);
            x.take(1, seed);
            e.due("heed as high as the draw " + draw, x.page(0, 0), 0);
            e.due("heed one higher than the draw " + draw, x.page(1, 0), 1);
        }
        for (int draw = 0; draw < 100; draw++) {
            e.check.holds("draw " + draw + " was seen", seen[draw]);
        }
    }

    private void twiceBySelf() {
        WhatWasSaid x = by(Edges.said(0, 30, 100, 130, 0, 201, 100, 301), "100", 10, 0);
        int[] due = {30, 60, 1, 2};
        for (int i = 0; i < due.length; i++) {
            e.due("long at " + i, x.page(0, 102 + 100 * i), due[i]);
        }
        WhatWasSaid y = by(Edges.said(0, 30, 100, 130), "100", 0, 0);
        e.due("by self 0", y.page(0, 102), 60);
        e.due("by another", y.page(0, 202), 30);
        e.due("the saying is as long as it was", y.of(0, 3), 30);
    }

    private void takeBad() {
        WhatWasSaid x = Edges.meeting(1);
        e.due("no writers", x.take(0, 0), -1);
        e.due("nobody", x.take(-1, 0), -1);
        Check.write(x, "100", 0, 0);
        for (int writer : new int[] {MIN_VALUE, -1, 1, 3, 4, MAX_VALUE}) {
            e.due("writer " + writer, x.take(writer, 0), -1);
        }
        e.due("no papers", x.count(2), 0);
    }

    private void takeFull() {
        WhatWasSaid x = Edges.meeting(1);
        Check.write(x, "100", 0, 0);
        for (int i = 0; i < 10; i++) {
            e.due("paper " + i, x.take(0, i), i);
        }
        e.due("the eleventh", x.take(0, 0), -3);
        e.due("once more", x.take(0, 0), -3);
        e.due("BAD is named ahead of it", x.take(1, 0), -1);
        e.due("ten", x.count(2), 10);
    }

    private void habits() {
        e.at(Edges.TERMS, "JOINS: of two ENTRIES side by side of the same WHO and ON the second falls away, "
                + "its LONG comes to the first", this::joins);
        e.at(Edges.TERMS, "(again and again, from the first pair on)", this::againAndAgain);
        e.at(Edges.TERMS, "SOFTENS: SORT 2 becomes 0", this::softens);
        e.at(Edges.TERMS, "LAST: those of SORT 3 come behind all others (all else in their order)", this::last);
    }

    private void joins() {
        row("one entry", by(Edges.said(0, 101), "100", 9, 1), 0, 0);
        row("the same who, on another", by(Edges.said(0, 101, 0, 201), "100", 9, 1), 0, 0, 1);
        row("another who, on the same", by(Edges.said(0, 101, 10, 101), "100", 9, 1), 0, 0, 1);
        row("not side by side", by(Edges.said(0, 101, 10, 101, 0, 101), "100", 9, 1), 0, 0, 1, 2);
        row("without the habit", by(Edges.said(0, 101, 0, 101), "100", 9, 6), 0, 0, 1);
        WhatWasSaid x = by(Edges.said(1, 105, 2, 107), "100", 9, 1);
        row("two", x, 0, 0);
        e.due("their long", x.page(0, 102), 12);
        e.due("the first's sort", x.page(0, 101), 1);
        e.due("all of the paper", x.page(0, 3), 12);
        row("side by side, as one is left out", by(Edges.said(0, 101, 10, 101, 0, 101), "100*!w", 9, 1), 0, 0);
    }

    private void againAndAgain() {
        WhatWasSaid x = new WhatWasSaid();
        for (int i = 0; i < 16; i++) {
            x.saying(100 + i % 4, 730);
        }
        by(x, "100", 10, 1);
        row("sixteen of the same", x, 0, 0);
        e.due("as long as all, twice by self", x.page(0, 102), 960);
        WhatWasSaid y = by(Edges.said(0, 101, 0, 102, 10, 103, 10, 104, 10, 105, 0, 106), "100", 9, 1);
        row("two, three and one", y, 0, 0, 2, 5);
        e.due("two", y.page(0, 102), 3);
        e.due("three", y.page(0, 202), 12);
        e.due("one", y.page(0, 302), 6);
    }

    private void softens() {
        WhatWasSaid x = by(Edges.said(0, 101, 1, 201, 2, 301, 3, 401), "100", 9, 2);
        int[] due = {0, 1, 0, 3};
        for (int i = 0; i < due.length; i++) {
            e.due("sort at " + i, x.page(0, 101 + 100 * i), due[i]);
            e.due("the saying's own sort " + i, x.of(i, 1), i);
        }
        WhatWasSaid y = by(Edges.said(2, 101), "100", 9, 5);
        e.due("without the habit", y.page(0, 101), 2);
        WhatWasSaid z = new WhatWasSaid();
        for (int i = 0; i < 16; i++) {
            z.saying(2, 101);
        }
        by(z, "100", 9, 2);
        e.due("the first of sixteen", z.page(0, 101), 0);
        e.due("the last of sixteen", z.page(0, 1601), 0);
    }

    private void last() {
        row("none decided", by(Edges.said(0, 101, 1, 201, 2, 301), "100", 9, 4), 0, 0, 1, 2);
        row("all decided", by(Edges.said(3, 101, 3, 201, 3, 301), "100", 9, 4), 0, 0, 1, 2);
        row("the last decided", by(Edges.said(0, 101, 1, 201, 3, 301), "100", 9, 4), 0, 0, 1, 2);
        row("the first decided", by(Edges.said(3, 101, 1, 201, 0, 301), "100", 9, 4), 0, 1, 2, 0);
        row("every other one", by(Edges.said(3, 101, 0, 201, 3, 301, 1, 401, 3, 501, 2, 601), "100", 9, 4), 0,
                1, 3, 5, 0, 2, 4);
        row("without the habit", by(Edges.said(3, 101, 1, 201), "100", 9, 3), 0, 0, 1);
        row("no entries", by(Edges.said(3, 101), "0", 9, 7), 0);
        WhatWasSaid x = by(Edges.said(3, 101, 0, 130, 3, 201, 12, 102), "100", 9, 7);
        row("joined to a decision first", x, 0, 3, 0, 2);
        e.due("with all it joined", x.page(0, 202), 31);
    }

    private void told() {
        e.at(Edges.TERMS, "TOLD PAPERS: SAYINGS in their order, each an ENTRY of its SORT and LONG, "
                + "of a WRITER (-1: nobody's)", this::toldPapers);
        e.at(10, "(or -1) with SAYINGS as bits", this::bits);
        e.at(10, "BAD", this::toldBad);
        e.at(10, "FULL", this::toldFull);
    }

    private void toldPapers() {
        WhatWasSaid x = Edges.said(2, 105, 2, 106, 3, 107, 1, 108);
        Check.write(x, "0", 0, 7);
        x.told(0, 15);
        row("all of them, by none of the habits", x, 0, 0, 1, 2, 3);
        int[] sorts = {2, 2, 3, 1};
        for (int i = 0; i < sorts.length; i++) {
            e.due("sort at " + i, x.page(0, 101 + 100 * i), sorts[i]);
            e.due("long at " + i + ", not twice by self", x.page(0, 102 + 100 * i), 5 + i);
            e.due("not added at " + i, x.page(0, 103 + 100 * i), 0);
        }
        e.due("its writer", x.page(0, 1), 0);
        x.told(-1, 15);
        e.due("nobody's", x.page(1, 1), -1);
    }

    private void bits() {
        WhatWasSaid x = Edges.meeting(16);
        int[] bits = {0, 1, 1 << 15, 65535, 0x5555};
        for (int i = 0; i < bits.length; i++) {
            e.due("told(-1, " + bits[i] + ")", x.told(-1, bits[i]), i);
            e.due("its sayings", x.page(i, 2), bits[i]);
            e.due("how many", x.page(i, 0), Integer.bitCount(bits[i]));
        }
        WhatWasSaid none = new WhatWasSaid();
        e.due("none of none", none.told(-1, 0), 0);
        e.due("one of none", none.told(-1, 1), -1);
    }

    private void toldBad() {
        WhatWasSaid x = Edges.meeting(3);
        for (int bits : new int[] {MIN_VALUE, -1, 8, 9, 15, 65536, MAX_VALUE}) {
            e.due("bits " + bits, x.told(-1, bits), -1);
        }
        for (int writer : new int[] {MIN_VALUE, -2, 0, 4, MAX_VALUE}) {
            e.due("writer " + writer, x.told(writer, 7), -1);
        }
        Check.write(x, "1", 0, 0);
        e.due("writer 1 of one", x.told(1, 7), -1);
        e.due("no papers", x.count(2), 0);
        WhatWasSaid y = Edges.meeting(16);
        e.due("a seventeenth saying", y.told(-1, 65536), -1);
        e.due("the sign", y.told(-1, MIN_VALUE), -1);
    }

    private void toldFull() {
        WhatWasSaid x = Edges.meeting(1);
        for (int i = 0; i < 10; i++) {
            e.due("paper " + i, x.told(-1, 1), i);
        }
        e.due("the eleventh", x.told(-1, 1), -3);
        e.due("the eleventh, with none", x.told(-1, 0), -3);
        e.due("BAD is named ahead of it", x.told(-1, 2), -1);
        e.due("BAD is named ahead of it", x.told(0, 1), -1);
        e.due("ten", x.count(2), 10);
    }

    private void amended() {
        e.at(11, "comes at place i (0 .. how many there are), ADDED: how many ENTRIES then", this::places);
        e.at(11, "BAD (it has it, too)", this::addBad);
        e.at(11, "FULL: 16", this::sixteenEntries);
        e.at(12, "how many are left", this::howManyAreLeft);
        e.at(12, "BAD", this::strikeBad);
    }

    private void places() {
        WhatWasSaid x = Edges.meeting(5);
        x.told(-1, 0);
        e.due("behind the last, below 0", x.add(0, 0, -1), -1);
        e.due("behind the end of none", x.add(0, 0, 1), -1);
        e.due("the only place", x.add(0, 0, 0), 1);
        e.due("ahead of all", x.add(0, 1, 0), 2);
        e.due("behind all", x.add(0, 2, 2), 3);
        e.due("ahead of the last", x.add(0, 3, 2), 4);
        e.due("one too far", x.add(0, 4, 5), -1);
        row("four added", x, 0, 1, 0, 3, 2);
        for (int i = 0; i < 4; i++) {
            e.due("added at " + i, x.page(0, 103 + 100 * i), 1);
        }
        x.told(-1, 3);
        x.add(1, 4, 1);
        row("one added", x, 1, 0, 4, 1);
        int[] added = {0, 1, 0};
        for (int i = 0; i < 3; i++) {
            e.due("added at " + i, x.page(1, 103 + 100 * i), added[i]);
            e.due("long at " + i, x.page(1, 102 + 100 * i), x.page(1, 100 + 100 * i) + 1);
        }
    }

    private void addBad() {
        WhatWasSaid x = Edges.meeting(3);
        e.due("no paper", x.add(0, 0, 0), -1);
        x.told(-1, 5);
        for (int paper : new int[] {MIN_VALUE, -1, 1, 9, 10, MAX_VALUE}) {
            e.due("paper " + paper, x.add(paper, 1, 0), -1);
        }
        for (int saying : new int[] {MIN_VALUE, -1, 3, 16, MAX_VALUE}) {
            e.due("saying " + saying, x.add(0, saying, 0), -1);
        }
        for (int i : new int[] {MIN_VALUE, -1, 3, 16, MAX_VALUE}) {
            e.due("place " + i, x.add(0, 1, i), -1);
        }
        e.due("it has its first", x.add(0, 0, 0), -1);
        e.due("it has its last", x.add(0, 2, 2), -1);
        row("as it was", x, 0, 0, 2);
        e.due("one it has not", x.add(0, 1, 0), 3);
        e.due("it has it now", x.add(0, 1, 0), -1);
        x.strike(0, 0);
        e.due("one that was struck", x.add(0, 1, 1), 3);
        WhatWasSaid y = by(Edges.said(0, 101, 0, 101), "100", 9, 1);
        e.due("one that was joined away", y.add(0, 1, 0), 2);
        row("it came ahead", y, 0, 1, 0);
    }

    /** A paper of 16 entries has each of the 16 sayings, so that BAD, which is named first, answers for FULL. */
    private void sixteenEntries() {
        WhatWasSaid x = Edges.meeting(16);
        x.told(-1, 0x7fff);
        e.due("the sixteenth entry", x.add(0, 15, 0), 16);
        e.due("it is the first", x.page(0, 100), 15);
        e.due("the last one is the fifteenth", x.page(0, 1600), 14);
        for (int saying = 0; saying <= 16; saying++) {
            e.due("saying " + saying, x.add(0, saying, 16), -1);
        }
        e.due("sixteen", x.page(0, 0), 16);
    }

    private void howManyAreLeft() {
        WhatWasSaid x = Edges.meeting(16);
        x.told(-1, 65535);
        e.due("the last of sixteen", x.strike(0, 15), 15);
        e.due("the first", x.strike(0, 0), 14);
        e.due("one between", x.strike(0, 6), 13);
        row("thirteen", x, 0, 1, 2, 3, 4, 5, 6, 8, 9, 10, 11, 12, 13, 14);
        for (int left = 12; left >= 0; left--) {
            e.due("the first of those", x.strike(0, 0), left);
        }
        row("none", x, 0);
    }

    private void strikeBad() {
        WhatWasSaid x = Edges.meeting(3);
        e.due("no paper", x.strike(0, 0), -1);
        x.told(-1, 5);
        for (int paper : new int[] {MIN_VALUE, -1, 1, 10, MAX_VALUE}) {
            e.due("paper " + paper, x.strike(paper, 0), -1);
        }
        for (int i : new int[] {MIN_VALUE, -1, 2, 16, MAX_VALUE}) {
            e.due("place " + i, x.strike(0, i), -1);
        }
        row("as it was", x, 0, 0, 2);
        x.told(-1, 0);
        e.due("of no entries", x.strike(1, 0), -1);
    }

    private void readAndCut() {
        e.at(Edges.TERMS, "all ENTRIES of SORT 2 whose first SAYING is by that one fall away; "
                + "of all others that are by that one LONG is twice what it was", this::readBy);
        e.at(Edges.TERMS, "(999 at most)", this::atMost999);
        e.at(Edges.TERMS, "a PAPER of at most so many ENTRIES", this::enoughRoom);
        e.at(Edges.TERMS, "those least LONG first (of like ones the last)", this::leastFirst);
        e.at(13, "READ by one (0 .. 10): how many ENTRIES fell away", this::howManyFell);
        e.at(13, "BAD", this::readBad);
        e.at(14, "at most n (0 .. 16) ENTRIES: how many fell away", this::atMostN);
        e.at(14, "BAD", this::cutBad);
    }

    private void readBy() {
        WhatWasSaid x = Edges.said(32, 101, 30, 202, 31, 303, 33, 404, 42, 505, 40, 606);
        x.told(-1, 63);
        e.due("one against fell", x.read(0, 3), 1);
        row("the others", x, 0, 1, 2, 3, 4, 5);
        int[] due = {4, 6, 8, 5, 6};
        for (int i = 0; i < due.length; i++) {
            e.due("long at " + i, x.page(0, 102 + 100 * i), due[i]);
        }
        WhatWasSaid y = by(Edges.said(32, 101, 30, 102), "100", 9, 1);
        e.due("joined to one against", y.read(0, 3), 1);
        row("nothing left", y, 0);
        WhatWasSaid z = by(Edges.said(32, 101), "100", 9, 2);
        e.due("softened", z.read(0, 3), 0);
        e.due("so twice", z.page(0, 102), 2);
        WhatWasSaid w = Edges.said(32, 101);
        w.told(-1, 1);
        w.mend(0, 1, 0);
        e.due("by the entry's sort, not the saying's", w.read(0, 3), 1);
    }

    private void atMost999() {
        WhatWasSaid x = Edges.said(30, 30);
        x.told(-1, 1);
        int[] due = {60, 120, 240, 480, 960, 999, 999};
        for (int i = 0; i < due.length; i++) {
            e.due("nothing falls", x.read(0, 3), 0);
            e.due("read " + (1 + i) + " times", x.page(0, 102), due[i]);
            e.due("long of all", x.page(0, 3), due[i]);
        }
        for (int length : new int[] {15, 16}) {
            WhatWasSaid y = Edges.said(30, length);
            y.told(-1, 1);
            for (int i = 0; i < 6; i++) {
                y.read(0, 3);
            }
            e.due("64 times " + length, y.page(0, 102), Math.min(999, 64 * length));
        }
    }

    private void enoughRoom() {
        WhatWasSaid x = Edges.meeting(3);
        x.told(-1, 7);
        e.due("one more than there are", x.cut(0, 4), 0);
        e.due("as many as there are", x.cut(0, 3), 0);
        row("all", x, 0, 0, 1, 2);
        e.due("one fewer", x.cut(0, 2), 1);
        row("one fewer", x, 0, 1, 2);
        e.due("none", x.cut(0, 0), 2);
        row("none", x, 0);
        e.due("it may have more again", x.add(0, 0, 0), 1);
    }

    private void leastFirst() {
        WhatWasSaid x = Edges.said(0, 102, 0, 201, 0, 302, 0, 401, 0, 502);
        x.told(-1, 31);
        int[][] due = {{0, 1, 2, 4}, {0, 2, 4}, {0, 2}, {0}, {}};
        for (int i = 0; i < due.length; i++) {
            e.due("to " + due[i].length, x.cut(0, due[i].length), 1);
            row("to " + due[i].length, x, 0, due[i]);
        }
        WhatWasSaid y = Edges.said(0, 102, 0, 201, 0, 302, 0, 401, 0, 502);
        y.told(-1, 31);
        e.due("three at once", y.cut(0, 2), 3);
        row("three at once", y, 0, 0, 2);
    }

    private void howManyFell() {
        WhatWasSaid x = new WhatWasSaid();
        for (int i = 0; i < 16; i++) {
            x.saying(i < 8 ? 2 : 102, 101);
        }
        x.told(-1, 65535);
        e.due("by one who said none", x.read(0, 1), 0);
        e.due("by 0", x.read(0, 0), 8);
        e.due("by 10", x.read(0, 10), 8);
        row("nothing left", x, 0);
        e.due("nothing falls", x.read(0, 0), 0);
    }

    private void readBad() {
        WhatWasSaid x = Edges.said(2, 101);
        e.due("no paper", x.read(0, 0), -1);
        x.told(-1, 1);
        for (int who : new int[] {MIN_VALUE, -1, 11, MAX_VALUE}) {
            e.due("who " + who, x.read(0, who), -1);
        }
        for (int paper : new int[] {MIN_VALUE, -1, 1, 10, MAX_VALUE}) {
            e.due("paper " + paper, x.read(paper, 0), -1);
        }
        row("as it was", x, 0, 0);
    }

    private void atMostN() {
        for (int n = 0; n <= 16; n++) {
            WhatWasSaid x = Edges.meeting(16);
            x.told(-1, 65535);
            e.due("of sixteen at most " + n, x.cut(0, n), 16 - n);
            e.due("left", x.page(0, 0), n);
            e.due("the longest are left", x.page(0, 2), 65535 >> 16 - n << 16 - n & 65535);
            e.due("no more falls", x.cut(0, n), 0);
        }
        WhatWasSaid x = Edges.meeting(1);
        x.told(-1, 0);
        e.due("of none at most none", x.cut(0, 0), 0);
        e.due("of none at most sixteen", x.cut(0, 16), 0);
    }

    private void cutBad() {
        WhatWasSaid x = Edges.meeting(2);
        e.due("no paper", x.cut(0, 0), -1);
        x.told(-1, 3);
        for (int n : new int[] {MIN_VALUE, -1, 17, 18, MAX_VALUE}) {
            e.due("n " + n, x.cut(0, n), -1);
        }
        for (int paper : new int[] {MIN_VALUE, -1, 1, 10, MAX_VALUE}) {
            e.due("paper " + paper, x.cut(paper, 0), -1);
        }
        row("as it was", x, 0, 0, 1);
    }

    private void page() {
        e.at(15, "1 its WRITER (-1)", this::writerOfPage);
        e.at(15, "100 times (1 and place) and 0 the first SAYING, 1 SORT, 2 LONG, 3 whether ADDED",
                this::placesOfPage);
        e.at(15, "VOID: BAD.", this::pageVoid);
        e.at(16, "LED: the place of a SAYING in a PAPER", this::led);
        e.at(16, "BAD", this::ledBad);
        e.at(16, "NOT", this::ledNot);
    }

    private void writerOfPage() {
        WhatWasSaid x = Edges.meeting(1);
        for (int i = 0; i < 4; i++) {
            Check.write(x, "1", 0, 0);
        }
        for (int writer = -1; writer < 4; writer++) {
            e.due("a paper of " + writer, x.page(x.told(writer, 1), 1), writer);
        }
    }

    private void placesOfPage() {
        WhatWasSaid x = new WhatWasSaid();
        for (int i = 0; i < 16; i++) {
            x.saying(10 * (i % 11) + i % 4, 1 + i);
        }
        x.told(-1, 0xfffe);
        x.add(0, 0, 15);
        for (int place : new int[] {0, 1, 14, 15}) {
            int saying = (place + 1) % 16;
            int[] due = {saying, saying % 4, 1 + saying, saying == 0 ? 1 : 0};
            for (int part = 0; part < 4; part++) {
                e.due("part " + part + " at " + place, x.page(0, 100 * (1 + place) + part), due[part]);
            }
        }
        e.due("how many", x.page(0, 0), 16);
        e.due("all sayings", x.page(0, 2), 65535);
        e.due("long of all", x.page(0, 3), 136);
    }

    private void pageVoid() {
        WhatWasSaid x = Edges.meeting(3);
        e.due("no paper", x.page(0, 0), -2000000000);
        x.told(-1, 3);
        for (int paper : new int[] {MIN_VALUE, -1, 1, 9, 10, MAX_VALUE}) {
            for (int what = 0; what <= 3; what++) {
                e.due("page(" + paper + ", " + what + ")", x.page(paper, what), -2000000000);
            }
        }
        for (int what : new int[] {MIN_VALUE, -101, -100, -99, -4, -1, 4, 5, 99, 104, 110, 199, 204, 299, 300, 303, 400, 1600,
            1700, MAX_VALUE - 1, MAX_VALUE}) {
            e.due("page(0, " + what + ")", x.page(0, what), -2000000000);
        }
        e.due("the last that is there", x.page(0, 203), 0);
        x.told(-1, 0);
        e.due("the first place of none", x.page(1, 100), -2000000000);
        e.due("how many, of none", x.page(1, 0), 0);
        e.due("sayings, of none", x.page(1, 2), 0);
        e.due("long, of none", x.page(1, 3), 0);
    }

    private void led() {
        WhatWasSaid x = Edges.meeting(16);
        x.told(-1, 65535);
        for (int i = 0; i < 16; i++) {
            e.due("saying " + i, x.led(0, i), i);
        }
        x.strike(0, 0);
        e.due("one up", x.led(0, 15), 14);
        x.add(0, 0, 15);
        e.due("at the end", x.led(0, 0), 15);
    }

    private void ledBad() {
        WhatWasSaid x = Edges.meeting(2);
        e.due("no paper", x.led(0, 0), -1);
        x.told(-1, 3);
        for (int paper : new int[] {MIN_VALUE, -1, 1, 10, MAX_VALUE}) {
            e.due("paper " + paper, x.led(paper, 0), -1);
        }
        for (int saying : new int[] {MIN_VALUE, -1, 2, 16, MAX_VALUE}) {
            e.due("saying " + saying, x.led(0, saying), -1);
        }
    }

    private void ledNot() {
        WhatWasSaid x = by(Edges.said(0, 101, 0, 101, 0, 201), "100", 9, 1);
        e.due("one that was joined away", x.led(0, 1), -2);
        e.due("the one behind it", x.led(0, 2), 1);
        x.strike(0, 0);
        e.due("one that was struck", x.led(0, 0), -2);
        x.told(-1, 0);
        e.due("of no entries", x.led(1, 0), -2);
    }
}
