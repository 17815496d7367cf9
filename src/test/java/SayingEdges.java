import static java.lang.Integer.MAX_VALUE;
import static java.lang.Integer.MIN_VALUE;

/** The boundary cases of sayings: promises 1 to 5, 27, 28, and what the terms say of them. */
final class SayingEdges {
    private final Edges e;

    SayingEdges(Edges e) {
        this.e = e;
    }

    void tell() {
        object();
        ranges();
        rows();
        mendAndOf();
        changes();
    }

    private void object() {
        e.at(Edges.TERMS, "An object is used for at most 512 calls", this::fiveHundredAndTwelve);
        e.at(Edges.TERMS, "BAD = -1, NOT = -2, FULL = -3, STATE = -5, VOID = -2000000000", this::constants);
        e.at(Edges.TERMS, "Answers, of several the one named first: BAD (-1): no such number, or it is not as said; "
                + "NOT (-2): as told; FULL (-3); STATE (-5): as told; -11 to -14. VOID is -2000000000.",
                this::firstNamed);
        e.at(Edges.TERMS, "All memory is the class's own.", this::twoObjects);
        e.at(1, "Nothing was said, nobody writes.", this::nothing);
    }

    private void fiveHundredAndTwelve() {
        WhatWasSaid x = new WhatWasSaid();
        e.due("call 1", x.saying(0, 30), 0);
        int before = 30;
        for (int call = 2; call <= 510; call++) {
            int v = 1 + call % 30;
            e.due("call " + call, x.mend(0, 3, v), before);
            before = v;
        }
        e.due("call 511", x.count(4), 40);
        e.due("call 512", x.of(0, 3), before);
    }

    private void constants() {
        e.due("BAD", WhatWasSaid.BAD, -1);
        e.due("NOT", WhatWasSaid.NOT, -2);
        e.due("FULL", WhatWasSaid.FULL, -3);
        e.due("STATE", WhatWasSaid.STATE, -5);
        e.due("VOID", WhatWasSaid.VOID, -2000000000);
    }

    /** Of two refusals that both hold, the one that is named first. */
    private void firstNamed() {
        WhatWasSaid x = Edges.meeting(16);
        e.due("BAD and FULL", x.saying(4, 1), -1);
        for (int i = 0; i < 10; i++) {
            x.told(-1, 0);
        }
        e.due("BAD and FULL", x.told(0, 0), -1);
        e.due("BAD and STATE", x.whose(10), -1);
        e.due("BAD and STATE", x.learnt(0, 0), -1);
        e.due("BAD and STATE", x.ask(2), -1);
        e.due("BAD and -11", x.taken(0, 8), -1);
        e.due("BAD and -14", x.row(6, 0, -1), -1);
        e.due("-11 and -13", x.put(0, -1, 0), -11);
        e.due("-11 and -12", x.shift(0, 0, 1, 0, 1), -11);
        x.row(0, 3, 2);
        x.row(1, 2, 2);
        e.due("-12 and -13", x.shift(0, 0, 1, 0, -1), -12);
        e.due("BAD and -12", x.sayings(0, 0, 0), -1);
    }

    private void twoObjects() {
        WhatWasSaid one = Edges.meeting(2);
        Check.write(one, "7", 0, 0);
        one.told(0, 3);
        one.mend(0, 3, 9);
        one.body(5);
        one.act(0, 3, 1);
        one.keep(0, 0);
        one.feed('1');
        WhatWasSaid other = new WhatWasSaid();
        for (int what = 0; what <= 6; what++) {
            e.due("count(" + what + ") of another object", other.count(what), 0);
        }
        e.due("another's shelf", other.taken(0, 0), -11);
        other.saying(103, 730);
        Check.write(other, "8", 0, 0);
        other.row(0, 3, 1);
        other.body(0);
        other.act(0, 0, 1);
        e.due("the one's saying", one.of(0, 3), 9);
        e.due("the one's writer", one.heed(0, 0), 7);
        e.due("the one's trace", one.count(6), 11);
        e.due("the one's shelf", one.taken(0, 0), 5);
        e.due("the one's changes", one.undo(), 0);
        e.due("the other's changes", other.redo(), -5);
    }

    private void nothing() {
        WhatWasSaid x = new WhatWasSaid();
        for (int what = 0; what <= 6; what++) {
            e.due("count(" + what + ")", x.count(what), 0);
        }
        e.due("no saying", x.of(0, 0), -1);
        e.due("no writer", x.take(0, 0), -1);
        e.due("no paper", x.page(0, 0), -2000000000);
        e.due("none only once", x.only(), 0);
        e.due("no order", x.order(0), -1);
        e.due("nobody to ask", x.ask(0), -5);
        e.due("no change", x.undo(), -5);
        e.due("no body", x.act(0, 0, 7), 0);
        e.due("no trace", x.trace(0), -1);
        e.due("an empty tape", x.writer(0, 0), -100);
    }

    private void ranges() {
        e.at(Edges.TERMS, "SAYINGS 0 .. 15", this::sixteen);
        e.at(Edges.TERMS, "WHO (0 .. 10)", () -> range(0, 0, 10));
        e.at(Edges.TERMS, "SORT (0 spoke, 1 moved, 2 was against, 3 decided)", () -> range(1, 0, 3));
        e.at(Edges.TERMS, "ON (0 .. 7: what)", () -> range(2, 0, 7));
        e.at(Edges.TERMS, "LONG (1 .. 30 MINUTES)", () -> range(3, 1, 30));
        e.at(Edges.TERMS, "MINUTE of a SAYING: LONG of all ahead together.", this::minutes);
        e.at(2, "ws: 10 times WHO, and the SORT; ol: 100 times ON, and LONG.", this::bothNumbers);
        e.at(2, "BAD", this::sayingBad);
        e.at(2, "FULL", this::sayingFull);
    }

    private void sixteen() {
        WhatWasSaid x = new WhatWasSaid();
        for (int i = 0; i < 16; i++) {
            e.due("no saying " + i + " yet", x.of(i, 0), -1);
            e.due("saying " + i, x.saying(10 * (i % 11), 1 + i), i);
        }
        e.due("no saying 16", x.saying(0, 1), -3);
        e.due("the last one's who", x.of(15, 0), 4);
        e.due("the last one's long", x.of(15, 3), 16);
        e.due("of(16)", x.of(16, 0), -1);
        e.due("of(-1)", x.of(-1, 0), -1);
    }

    /** Tells what a saying is by saying, by mending and by a row of bytes: just ahead, the ends, just behind. */
    private void range(int what, int least, int greatest) {
        for (int v : new int[] {least - 1, least, least + 1, greatest - 1, greatest, greatest + 1}) {
            boolean fits = v >= least && v <= greatest;
            int[] parts = {5, 1, 3, 7};
            parts[what] = v;
            WhatWasSaid x = new WhatWasSaid();
            e.due("said " + v, x.saying(10 * parts[0] + parts[1], 100 * parts[2] + parts[3]), fits ? 0 : -1);
            if (fits) {
                e.due("said " + v + " is", x.of(0, what), v);
            }
            WhatWasSaid y = Edges.said(51, 307);
            int before = y.of(0, what);
            e.due("mended to " + v, y.mend(0, what, v), fits ? before : -1);
            e.due("mended to " + v + " is", y.of(0, what), fits ? v : before);
            WhatWasSaid z = new WhatWasSaid();
            Edges.fill(z, 0, 0, parts[0], parts[1], parts[2], parts[3]);
            e.due("from a row " + v, z.sayings(0, 0, 1), fits ? 1 : 0);
            e.due("from a row " + v + " is", z.of(0, what), fits ? v : -1);
        }
    }

    private void minutes() {
        WhatWasSaid x = new WhatWasSaid();
        for (int i = 0; i < 16; i++) {
            x.saying(0, 30);
            e.due("minute of " + i, x.of(i, 4), 30 * i);
        }
        x.mend(15, 3, 1);
        e.due("not its own long", x.of(15, 4), 450);
        x.mend(0, 3, 1);
        e.due("the first's long", x.of(15, 4), 421);
        e.due("none ahead of the first", x.of(0, 4), 0);
    }

    private void bothNumbers() {
        WhatWasSaid x = Edges.said(0, 1, 103, 730, 100, 700 + 1, 3, 30, 19, 1, 4, 1);
        int[][] due = {{0, 0, 0, 1}, {10, 3, 7, 30}, {10, 0, 7, 1}, {0, 3, 0, 30}};
        e.due("four are so", x.count(0), due.length);
        for (int i = 0; i < due.length; i++) {
            for (int what = 0; what < 4; what++) {
                e.due("part " + what + " of " + i, x.of(i, what), due[i][what]);
            }
        }
    }

    private void sayingBad() {
        WhatWasSaid x = new WhatWasSaid();
        for (int ws : new int[] {-1, -10, 4, 9, 14, 104, 109, 110, 113, 1000, MIN_VALUE, MAX_VALUE}) {
            e.due("saying(" + ws + ", 1)", x.saying(ws, 1), -1);
        }
        for (int ol : new int[] {-1, -99, -100, 0, 31, 99, 100, 131, 199, 700, 731, 799, 800, 801, 1001, MIN_VALUE, MAX_VALUE}) {
            e.due("saying(0, " + ol + ")", x.saying(0, ol), -1);
        }
        e.due("saying(-1, -1)", x.saying(-1, -1), -1);
        e.due("none came", x.count(0), 0);
    }

    private void sayingFull() {
        WhatWasSaid x = Edges.meeting(15);
        e.due("the sixteenth", x.saying(103, 730), 15);
        e.due("the seventeenth", x.saying(103, 730), -3);
        e.due("once more", x.saying(0, 1), -3);
        e.due("BAD is named ahead of it", x.saying(0, 0), -1);
        e.due("sixteen are there", x.count(0), 16);
    }

    private void rows() {
        e.at(Edges.TERMS, "it ends where the row is missing,", this::rowMissing);
        e.at(Edges.TERMS, "ends (within a four, too),", this::rowEnds);
        e.at(Edges.TERMS, "one is not so,", this::oneIsNotSo);
        e.at(Edges.TERMS, "or SAYINGS are FULL:", this::fullByRow);
        e.at(Edges.TERMS, "those ahead came.", this::thoseAhead);
        e.at(3, "from place i on", this::placesOfRows);
        e.at(3, "n (1 .. 15) of them", this::oneToFifteen);
        e.at(3, "BAD", this::sayingsBad);
        e.at(3, "-12 (no ROW of bytes; a SHELF that holds nothing is missing)", this::noRowOfBytes);
    }

    private void rowMissing() {
        WhatWasSaid x = new WhatWasSaid();
        for (int shelf = 0; shelf < 6; shelf++) {
            e.due("shelf " + shelf, x.sayings(shelf, 0, 15), 0);
        }
        x.row(0, 0, 4);
        x.keep(0, -1);
        e.due("a shelf that held a row", x.sayings(0, 0, 1), 0);
        e.due("none came", x.count(0), 0);
    }

    private void rowEnds() {
        long[] values = {1, 1, 1, 1, 2, 2, 2, 2, 3, 3, 3, 3};
        for (int length = 0; length <= values.length; length++) {
            WhatWasSaid x = new WhatWasSaid();
            Edges.fill(x, 0, 0, java.util.Arrays.copyOf(values, length));
            e.due("a row of " + length, x.sayings(0, 0, 15), length / 4);
            e.due("came of a row of " + length, x.count(0), length / 4);
        }
        for (int i = 0; i <= values.length; i++) {
            WhatWasSaid x = new WhatWasSaid();
            Edges.fill(x, 0, 0, values);
            e.due("from " + i, x.sayings(0, i, 15), (values.length - i) / 4);
        }
    }

    private void oneIsNotSo() {
        int[] greatest = {10, 3, 7, 30};
        int[] least = {0, 0, 0, 1};
        for (int part = 0; part < 4; part++) {
            for (int v : new int[] {least[part] - 1, greatest[part] + 1, -128, 127}) {
                WhatWasSaid x = new WhatWasSaid();
                Edges.fill(x, 0, 0, 10, 3, 7, 30, 0, 0, 0, 1, 5, 1, 3, 7);
                x.put(0, 4 + part, v);
                e.due("part " + part + " is " + v, x.sayings(0, 0, 3), 1);
                e.due("those behind don't come", x.count(0), 1);
                e.due("but by themselves", x.sayings(0, 8, 1), 1);
            }
        }
    }

    private void fullByRow() {
        WhatWasSaid x = Edges.meeting(14);
        Edges.fill(x, 0, 0, 1, 1, 1, 1, 2, 2, 2, 2, 3, 3, 3, 3);
        e.due("two of three", x.sayings(0, 0, 3), 2);
        e.due("the last of them", x.of(15, 0), 2);
        e.due("none when full", x.sayings(0, 0, 3), 0);
        e.due("sixteen", x.count(0), 16);
    }

    private void thoseAhead() {
        WhatWasSaid x = Edges.meeting(1);
        Edges.fill(x, 0, 0, 1, 2, 3, 4, 5, 1, 2, 3, 9, 9, 9, 9, 6, 3, 1, 2);
        e.due("two ahead of one that is not so", x.sayings(0, 0, 4), 2);
        int[][] due = {{1, 2, 3, 4}, {5, 1, 2, 3}};
        for (int i = 0; i < 2; i++) {
            for (int what = 0; what < 4; what++) {
                e.due("part " + what + " of " + (1 + i), x.of(1 + i, what), due[i][what]);
            }
        }
        e.due("no more", x.of(3, 0), -1);
    }

    private void placesOfRows() {
        WhatWasSaid x = new WhatWasSaid();
        Edges.fill(x, 0, 0, 1, 1, 1, 1, 2, 2, 2, 2);
        for (int i : new int[] {MIN_VALUE, MIN_VALUE + 4, -60, -8, -5, -4, -3, -2, -1, 5, 6, 7, 8, 9, 12, 60,
            MAX_VALUE - 7, MAX_VALUE - 3, MAX_VALUE}) {
            e.due("from " + i, x.sayings(0, i, 15), 0);
        }
        e.due("none came", x.count(0), 0);
        e.due("the last four", x.sayings(0, 4, 15), 1);
        e.due("from within a four", x.sayings(0, 3, 1), 1);
        int[] due = {1, 2, 2, 2};
        for (int what = 0; what < 4; what++) {
            e.due("part " + what, x.of(1, what), due[what]);
        }
    }

    private void oneToFifteen() {
        long[] ones = new long[60];
        java.util.Arrays.fill(ones, 1);
        for (int n : new int[] {1, 2, 14, 15}) {
            WhatWasSaid x = new WhatWasSaid();
            Edges.fill(x, 0, 0, ones);
            e.due("n " + n, x.sayings(0, 0, n), n);
            e.due("came by n " + n, x.count(0), n);
        }
        WhatWasSaid x = new WhatWasSaid();
        Edges.fill(x, 0, 0, ones);
        for (int n : new int[] {MIN_VALUE, -1, 0, 16, 17, MAX_VALUE}) {
            e.due("n " + n, x.sayings(0, 0, n), -1);
            e.due("n " + n + " of a missing row", x.sayings(1, 0, n), -1);
        }
        e.due("none came", x.count(0), 0);
    }

    private void sayingsBad() {
        WhatWasSaid x = new WhatWasSaid();
        for (int shelf : new int[] {MIN_VALUE, -1, 6, MAX_VALUE}) {
            e.due("shelf " + shelf, x.sayings(shelf, 0, 1), -1);
        }
        x.row(5, 3, 4);
        e.due("ahead of -12", x.sayings(5, 0, 16), -1);
        e.due("ahead of -12", x.sayings(5, 0, 0), -1);
    }

    private void noRowOfBytes() {
        WhatWasSaid x = new WhatWasSaid();
        for (int sort = 1; sort <= 4; sort++) {
            Edges.fill(x, sort, sort, 1, 1, 1, 1);
            e.due("sort " + sort, x.sayings(sort, 0, 1), -12);
            e.due("sort " + sort + " from behind its end", x.sayings(sort, 4, 1), -12);
            e.due("sort " + sort + " from below 0", x.sayings(sort, -1, 1), -12);
            x.row(sort, sort, 0);
            e.due("no elements of sort " + sort, x.sayings(sort, 0, 1), -12);
        }
        x.body(0);
        x.keep(5, 0);
        e.due("an entry", x.sayings(5, 0, 1), -12);
        x.keep(5, -1);
        e.due("nothing", x.sayings(5, 0, 1), 0);
        e.due("none came", x.count(0), 0);
    }

    private void mendAndOf() {
        e.at(4, "WHO (what 0), SORT (1), ON (2), LONG (3) of a SAYING becomes v: what it was.", this::eachPart);
        e.at(4, "BAD", this::mendBad);
        e.at(5, "0 WHO, 1 SORT, 2 ON, 3 LONG, 4 MINUTE", this::partsOf);
        e.at(5, "BAD", this::ofBad);
    }

    private void eachPart() {
        WhatWasSaid x = Edges.said(0, 1, 51, 307, 0, 1);
        int[] was = {5, 1, 3, 7};
        int[] least = {0, 0, 0, 1};
        int[] greatest = {10, 3, 7, 30};
        for (int what = 0; what < 4; what++) {
            e.due("what " + what + " to the least", x.mend(1, what, least[what]), was[what]);
            e.due("what " + what + " to the greatest", x.mend(1, what, greatest[what]), least[what]);
            e.due("what " + what + " is", x.of(1, what), greatest[what]);
            e.due("what " + what + " of the one ahead", x.of(0, what), least[what]);
            e.due("what " + what + " of the one behind", x.of(2, what), least[what]);
        }
    }

    private void mendBad() {
        WhatWasSaid x = Edges.said(51, 307, 51, 307);
        for (int saying : new int[] {MIN_VALUE, -1, 2, 15, 16, MAX_VALUE}) {
            e.due("saying " + saying, x.mend(saying, 0, 1), -1);
        }
        for (int what : new int[] {MIN_VALUE, -1, 4, 5, MAX_VALUE}) {
            e.due("what " + what, x.mend(0, what, 1), -1);
        }
        int[] greatest = {10, 3, 7, 30};
        for (int what = 0; what < 4; what++) {
            for (int v : new int[] {MIN_VALUE, -1, greatest[what] + 1, MAX_VALUE}) {
                e.due("what " + what + " to " + v, x.mend(1, what, v), -1);
            }
        }
        e.due("long 0", x.mend(0, 3, 0), -1);
        e.due("no change", x.count(4), 0);
    }

    private void partsOf() {
        WhatWasSaid x = Edges.said(0, 30, 103, 729, 0, 1);
        int[] due = {10, 3, 7, 29, 30};
        for (int what = 0; what < 5; what++) {
            e.due("what " + what, x.of(1, what), due[what]);
        }
    }

    private void ofBad() {
        WhatWasSaid x = Edges.meeting(2);
        for (int what : new int[] {MIN_VALUE, -1, 5, 6, MAX_VALUE}) {
            e.due("what " + what, x.of(0, what), -1);
        }
        for (int saying : new int[] {MIN_VALUE, -1, 2, 16, MAX_VALUE}) {
            e.due("saying " + saying, x.of(saying, 4), -1);
            e.due("saying " + saying, x.of(saying, 0), -1);
        }
    }

    private void changes() {
        e.at(Edges.TERMS, "telling the same number is none", this::theSameNumber);
        e.at(Edges.TERMS, "the latest first,", this::latestFirst);
        e.at(Edges.TERMS, "(as long as no other came behind)", this::anotherCameBehind);
        e.at(Edges.TERMS, "40 at most are kept", this::forty);
        e.at(27, "how many may still be", this::stillUndone);
        e.at(27, "STATE: none", this::undoNone);
        e.at(28, "how many may still be", this::stillDoneAgain);
        e.at(28, "STATE: none", this::redoNone);
    }

    private void theSameNumber() {
        WhatWasSaid x = Edges.said(51, 307);
        int[] is = {5, 1, 3, 7};
        for (int what = 0; what < 4; what++) {
            e.due("what " + what, x.mend(0, what, is[what]), is[what]);
        }
        e.due("none", x.count(4), 0);
        e.due("nothing to undo", x.undo(), -5);
        x.mend(0, 0, 6);
        x.undo();
        x.mend(0, 0, 5);
        e.due("nor does it come behind what was undone", x.redo(), 0);
        e.due("who again", x.of(0, 0), 6);
    }

    private void latestFirst() {
        WhatWasSaid x = Edges.said(0, 1, 0, 1);
        x.mend(0, 3, 2);
        x.mend(1, 0, 9);
        x.mend(0, 3, 3);
        x.undo();
        e.due("the latest", x.of(0, 3), 2);
        e.due("not the one ahead", x.of(1, 0), 9);
        x.undo();
        e.due("the one ahead", x.of(1, 0), 0);
        e.due("not the first", x.of(0, 3), 2);
        x.undo();
        e.due("the first", x.of(0, 3), 1);
        x.redo();
        e.due("the first again", x.of(0, 3), 2);
        e.due("not the second", x.of(1, 0), 0);
    }

    private void anotherCameBehind() {
        WhatWasSaid x = Edges.said(0, 1, 0, 1);
        x.mend(0, 3, 2);
        x.mend(0, 3, 3);
        x.undo();
        x.undo();
        x.saying(0, 1);
        x.told(-1, 0);
        e.due("other calls are no changes", x.redo(), 1);
        x.mend(1, 3, 9);
        e.due("another came behind", x.redo(), -5);
        e.due("it may be undone", x.undo(), 1);
        e.due("and done again", x.redo(), 0);
        e.due("what was undone first is gone", x.of(0, 3), 2);
        x.undo();
        x.mend(0, 3, 31);
        e.due("a refused one is none", x.redo(), 0);
    }

    private void forty() {
        for (int changes : new int[] {39, 40, 41, 42, 80, 81}) {
            WhatWasSaid x = Edges.said(0, 1);
            for (int i = 0; i < changes; i++) {
                x.mend(0, 3, 2 + i % 29);
            }
            int kept = Math.min(40, changes);
            e.due("kept of " + changes, x.count(4), kept);
            for (int left = kept - 1; left >= 0; left--) {
                e.due("undo of " + changes, x.undo(), left);
            }
            e.due("none left of " + changes, x.undo(), -5);
            e.due("as far back as is kept of " + changes, x.of(0, 3), changes <= 40 ? 1 : 2 + (changes - 41) % 29);
            for (int left = kept - 1; left >= 0; left--) {
                e.due("redo of " + changes, x.redo(), left);
            }
            e.due("as it was last of " + changes, x.of(0, 3), 2 + (changes - 1) % 29);
        }
    }

    private void stillUndone() {
        WhatWasSaid x = Edges.said(0, 1);
        x.mend(0, 0, 1);
        x.mend(0, 1, 1);
        x.mend(0, 2, 1);
        e.due("two", x.undo(), 2);
        e.due("one", x.undo(), 1);
        e.due("as count says", x.count(4), 1);
        e.due("none", x.undo(), 0);
        x.redo();
        e.due("done again, undone", x.undo(), 0);
    }

    private void undoNone() {
        WhatWasSaid x = new WhatWasSaid();
        e.due("nothing was said", x.undo(), -5);
        x.saying(0, 1);
        e.due("no change", x.undo(), -5);
        x.mend(0, 3, 2);
        x.undo();
        e.due("undone already", x.undo(), -5);
        e.due("once more", x.undo(), -5);
        e.due("it may still be done again", x.redo(), 0);
    }

    private void stillDoneAgain() {
        WhatWasSaid x = Edges.said(0, 1);
        x.mend(0, 0, 1);
        x.mend(0, 1, 1);
        x.mend(0, 2, 1);
        x.undo();
        x.undo();
        x.undo();
        e.due("two", x.redo(), 2);
        e.due("one", x.redo(), 1);
        e.due("what may be undone", x.count(4), 2);
        e.due("none", x.redo(), 0);
    }

    private void redoNone() {
        WhatWasSaid x = new WhatWasSaid();
        e.due("nothing was said", x.redo(), -5);
        x.saying(0, 1);
        x.mend(0, 3, 2);
        e.due("nothing was undone", x.redo(), -5);
        x.undo();
        x.redo();
        e.due("done again already", x.redo(), -5);
        e.due("it may still be undone", x.undo(), 0);
    }
}
