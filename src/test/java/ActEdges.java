import static java.lang.Integer.MAX_VALUE;
import static java.lang.Integer.MIN_VALUE;

/** The boundary cases of entries kept by call and their acts: promises 29 to 31, and what the terms say of them. */
final class ActEdges {
    private final Edges e;

    ActEdges(Edges e) {
        this.e = e;
    }

    void tell() {
        e.at(Edges.TERMS, "BODIES 0 .. 49", this::fiftyBodies);
        e.at(Edges.TERMS, "x (an int that wraps)", this::wraps);
        e.at(Edges.TERMS, "n its number", this::numbers);
        e.at(Edges.TERMS, "says(..) and so on: the body of its own KIND, or of the next KIND above that has one",
                this::nextKindAbove);
        e.at(Edges.TERMS, "numbers of the bodies that ran in the latest act(), as they began; the first 24 are kept",
                this::allAreKept);
        e.at(29, "A ENTRY of a KIND (0 .. 7) is kept: its number", this::kinds);
        e.at(29, "BAD", this::bodyBad);
        e.at(29, "FULL", this::bodyFull);
        e.at(30, "An ACT (0 .. 3) of a ENTRY", this::fourActs);
        e.at(30, "0, and no TRACE then: no such ENTRY, ACT", this::noSuchAct);
        e.at(31, "THE TRACE's i-th body", this::traceOrder);
        e.at(31, "BAD", this::traceBad);
        e.at(38, "6 bodies that ran in the latest act() (all, kept or not)", this::latestAct);
    }

    /** One entry of each kind, by the number of its kind. */
    private static WhatWasSaid eight() {
        WhatWasSaid x = new WhatWasSaid();
        for (int kind = 0; kind < 8; kind++) {
            x.body(kind);
        }
        return x;
    }

    private void fiftyBodies() {
        WhatWasSaid x = new WhatWasSaid();
        for (int i = 0; i < 50; i++) {
            e.due("no entry " + i + " yet", x.keep(0, i), -1);
            e.due("entry " + i, x.body(7 - i % 8), i);
            e.due("kept", x.keep(0, i), 1);
            e.due("its kind", x.taken(0, 0), 7 - i % 8);
        }
        e.due("no entry 50", x.body(0), -3);
        e.due("nor on a shelf", x.keep(0, 50), -1);
        e.due("fifty", x.count(5), 50);
    }

    private void wraps() {
        WhatWasSaid x = eight();
        int m = MAX_VALUE;
        e.due("1 adds", x.act(4, 0, m), m + 4);
        e.due("10 doubles", x.act(0, 1, m), -2);
        e.due("10 doubles the least", x.act(0, 1, MIN_VALUE), 0);
        e.due("20 adds", x.act(1, 0, m - 3), MIN_VALUE);
        e.due("30 negates the least", x.act(2, 1, (1 << 30) - 5), MIN_VALUE);
        e.due("40 times 3", x.act(3, 2, m ^ 3), m * 3);
        e.due("41 adds to the greatest", x.act(3, 1, m), (MIN_VALUE + 6) * 2);
        e.due("60 takes away", x.act(5, 2, MIN_VALUE ^ 5), MIN_VALUE * 3 - 10);
        e.due("70 doubles", x.act(6, 0, m), (m + 6) * 2);
        e.due("2 takes away", x.act(0, 3, 1 << 30), m);
        e.due("61 adds", x.act(5, 3, m), (MIN_VALUE + 8) * 2 - ((1 ^ 5) * 3 - 10) + 1);
        e.due("80 adds", x.act(7, 1, m), -((m + 7 + 3) * 2) + 5);
        e.due("81 takes away", x.act(7, 3, m), -((m + 10) * 2) + 5 - 6 - 1);
        e.due("50 by bits", x.act(4, 3, m), (m + 4) * 2 - 5 ^ 5);
        e.due("11 by bits", x.act(0, 2, MIN_VALUE), MIN_VALUE);
    }

    private void numbers() {
        WhatWasSaid x = new WhatWasSaid();
        for (int i = 0; i < 50; i++) {
            x.body(0);
            e.due("says by " + i, x.act(i, 0, 100), 100 + i);
            e.due("mends by " + i, x.act(i, 2, 0), i);
        }
        e.due("the first's is still 0", x.act(0, 0, 100), 100);
    }

    /** Of each kind and act the body that begins. */
    private void nextKindAbove() {
        WhatWasSaid x = eight();
        int[][] first = {{1, 10, 11, 2}, {20, 10, 11, 2}, {20, 30, 11, 2}, {20, 41, 40, 2}, {1, 10, 11, 50},
            {20, 41, 60, 61}, {70, 10, 11, 2}, {20, 80, 11, 81}};
        for (int kind = 0; kind < 8; kind++) {
            for (int act = 0; act < 4; act++) {
                x.act(kind, act, 0);
                e.due("act " + act + " of kind " + kind, x.trace(0), first[kind][act]);
            }
        }
    }

    /** No act runs more than 11 bodies, so that the first 24 are always all of them. */
    private void allAreKept() {
        WhatWasSaid x = eight();
        int[][] ran = {{1, 2, 1, 4}, {2, 3, 1, 5}, {2, 4, 1, 6}, {2, 4, 2, 7}, {1, 2, 1, 5}, {2, 4, 5, 11},
            {2, 3, 1, 5}, {2, 6, 1, 9}};
        for (int kind = 0; kind < 8; kind++) {
            for (int act = 0; act < 4; act++) {
                x.act(kind, act, 0);
                int bodies = ran[kind][act];
                e.due("bodies of act " + act + " of kind " + kind, x.count(6), bodies);
                e.check.holds("the last is kept", x.trace(bodies - 1) > 0);
                e.due("none behind it", x.trace(bodies), -1);
            }
        }
        e.due("nothing behind the longest stays", x.act(0, 0, 5), 5);
        e.due("one ran", x.count(6), 1);
        e.due("the first", x.trace(0), 1);
        e.due("no second", x.trace(1), -1);
    }

    private void kinds() {
        WhatWasSaid x = new WhatWasSaid();
        for (int kind = 0; kind < 8; kind++) {
            e.due("kind " + kind, x.body(kind), kind);
            x.keep(0, kind);
            e.due("is of it", x.taken(0, kind), kind);
        }
    }

    private void bodyBad() {
        WhatWasSaid x = new WhatWasSaid();
        for (int kind : new int[] {MIN_VALUE, -1, 8, 9, MAX_VALUE}) {
            e.due("kind " + kind, x.body(kind), -1);
        }
        e.due("none is kept", x.count(5), 0);
    }

    private void bodyFull() {
        WhatWasSaid x = new WhatWasSaid();
        for (int i = 0; i < 49; i++) {
            x.body(1);
        }
        e.due("the fiftieth", x.body(7), 49);
        e.due("the fifty-first", x.body(7), -3);
        e.due("once more", x.body(0), -3);
        e.due("BAD is named ahead of it", x.body(8), -1);
        e.due("BAD is named ahead of it", x.body(-1), -1);
        e.due("fifty", x.count(5), 50);
    }

    private void fourActs() {
        WhatWasSaid x = eight();
        int[] due = {13, 26, 9 ^ 4, 26 - (1 ^ 4) ^ 5};
        for (int act = 0; act < 4; act++) {
            e.due("act " + act, x.act(4, act, 9), due[act]);
        }
        for (int act : new int[] {MIN_VALUE, -1, 4, 5, MAX_VALUE}) {
            e.due("act " + act, x.act(4, act, 9), 0);
        }
    }

    private void noSuchAct() {
        WhatWasSaid x = new WhatWasSaid();
        e.due("no entries", x.act(0, 0, 7), 0);
        x.body(5);
        int[][] calls = {{-1, 3}, {1, 3}, {49, 3}, {50, 3}, {MIN_VALUE, 3}, {MAX_VALUE, 3}, {0, -1}, {0, 4}, {0, MIN_VALUE},
            {0, MAX_VALUE}, {1, 4}};
        for (int[] call : calls) {
            x.act(0, 3, 7);
            e.due("eleven bodies ran", x.count(6), 11);
            e.due("act(" + call[0] + ", " + call[1] + ")", x.act(call[0], call[1], 7), 0);
            e.due("no bodies then", x.count(6), 0);
            e.due("no trace then", x.trace(0), -1);
        }
    }

    private void traceOrder() {
        WhatWasSaid x = eight();
        x.act(5, 3, 9);
        int[] due = {61, 2, 41, 10, 20, 1, 60, 40, 11, 20, 1};
        for (int i = 0; i < due.length; i++) {
            e.due("trace(" + i + ")", x.trace(i), due[i]);
        }
        x.act(7, 3, 9);
        int[] next = {81, 2, 80, 30, 10, 20, 1, 11, 11};
        for (int i = 0; i < next.length; i++) {
            e.due("trace(" + i + ") of the next", x.trace(i), next[i]);
        }
        e.due("behind it", x.trace(next.length), -1);
    }

    private void traceBad() {
        WhatWasSaid x = eight();
        e.due("no act yet", x.trace(0), -1);
        x.act(5, 3, 9);
        e.due("the last of eleven", x.trace(10), 1);
        for (int i : new int[] {MIN_VALUE, -1, 11, 12, 23, 24, 25, MAX_VALUE}) {
            e.due("trace(" + i + ")", x.trace(i), -1);
        }
    }

    private void latestAct() {
        WhatWasSaid x = eight();
        e.due("no act yet", x.count(6), 0);
        x.act(5, 3, 9);
        e.due("the most that any act runs", x.count(6), 11);
        x.body(0);
        x.keep(0, 8);
        x.taken(0, 0);
        x.body(8);
        e.due("other calls behind it", x.count(6), 11);
        x.act(0, 0, 9);
        e.due("the latest alone", x.count(6), 1);
        x.act(8, 4, 9);
        e.due("a refused one", x.count(6), 0);
    }
}
