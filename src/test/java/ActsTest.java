/** Promises 29 to 31: entries kept by call, their acts, the trace. */
public final class ActsTest {
    private static final Check check = new Check();

    public static void main(String[] args) {
        body();
        acts();
        wraps();
        trace();
        refused();
        check.end();
    }

    private static void body() {
        WhatWasSaid x = new WhatWasSaid();
        check.due("kind -1", x.body(-1), -1);
        check.due("kind 8", x.body(8), -1);
        for (int i = 0; i < 50; i++) {
            check.due("body " + i, x.body(i % 8), i);
        }
        check.due("fifty are all", x.body(0), -3);
        check.due("BAD ahead of FULL", x.body(8), -1);
        check.due("kept", x.count(5), 50);
    }

    /** One body of each kind: its number is its kind. */
    private static WhatWasSaid kinds() {
        WhatWasSaid x = new WhatWasSaid();
        for (int kind = 0; kind < 8; kind++) {
            x.body(kind);
        }
        return x;
    }

    private static void ran(WhatWasSaid x, String name, int... bodies) {
        check.due("bodies of " + name, x.count(6), bodies.length);
        for (int i = 0; i < bodies.length; i++) {
            check.due("body " + i + " of " + name, x.trace(i), bodies[i]);
        }
        check.due("no more of " + name, x.trace(bodies.length), -1);
        check.due("none ahead of " + name, x.trace(-1), -1);
    }

    private static void acts() {
        WhatWasSaid x = kinds();
        int t = 20;
        check.due("entry says", x.act(0, 0, t), 20);
        ran(x, "entry says", 1);
        check.due("taken says", x.act(1, 0, t), 21 + 3);
        ran(x, "taken says", 20, 1);
        check.due("softened says", x.act(2, 0, t), 22 + 3);
        check.due("moved says", x.act(4, 0, t), 24);
        check.due("added says", x.act(6, 0, t), 26 * 2);
        ran(x, "added says", 70, 1);
        check.due("entry takes", x.act(0, 1, t), 40);
        ran(x, "entry takes", 10, 1);
        check.due("taken takes", x.act(1, 1, t), 48);
        ran(x, "taken takes", 10, 20, 1);
        check.due("softened takes", x.act(2, 1, t), -50);
        ran(x, "softened takes", 30, 10, 20, 1);
        check.due("joined takes", x.act(3, 1, t), (21 + 3 + 3) * 2);
        ran(x, "joined takes", 41, 10, 20, 1);
        check.due("own takes", x.act(5, 1, t), (21 + 5 + 3) * 2);
        ran(x, "own takes", 41, 10, 20, 1);
        check.due("added takes", x.act(6, 1, t), 26 * 2 * 2);
        check.due("lacking takes", x.act(7, 1, t), -(20 + 7 + 3) * 2 + (2 ^ 7));
        ran(x, "lacking takes", 80, 30, 10, 20, 1, 11);
        check.due("added mends", x.act(6, 2, t), 20 ^ 6);
        ran(x, "added mends", 11);
        check.due("added joins", x.act(6, 3, t), 26 * 2 * 2 - (1 ^ 6));
        ran(x, "added joins", 2, 10, 70, 1, 11);
        check.due("moved takes", x.act(4, 1, t), 48);
        check.due("moved mends", x.act(4, 2, t), 20 ^ 4);
        check.due("softened mends", x.act(2, 2, t), 22);
        check.due("softened joins", x.act(2, 3, t), -50 - (1 ^ 2));
        ran(x, "softened joins", 2, 30, 10, 20, 1, 11);
        check.due("taken joins", x.act(1, 3, t), 48 - (1 ^ 1));
        check.due("joined says", x.act(3, 0, t), 26);
        check.due("own says", x.act(5, 0, t), 28);
        check.due("lacking says", x.act(7, 0, t), 30);
        check.due("lacking mends", x.act(7, 2, t), 20 ^ 7);
        check.due("entry mends", x.act(0, 2, t), 20);
        check.due("taken mends", x.act(1, 2, t), 21);
        ran(x, "taken mends", 11);
        check.due("joined mends", x.act(3, 2, t), (20 ^ 3) * 3);
        ran(x, "joined mends", 40, 11);
        check.due("own mends", x.act(5, 2, t), (20 ^ 5) * 3 - (2 + 5 + 3));
        ran(x, "own mends", 60, 40, 11, 20, 1);
        check.due("entry joins", x.act(0, 3, t), 40 - 1);
        ran(x, "entry joins", 2, 10, 1, 11);
        check.due("joined joins", x.act(3, 3, t), (21 + 3 + 3) * 2 - (1 ^ 3) * 3);
        ran(x, "joined joins", 2, 41, 10, 20, 1, 40, 11);
        check.due("moved joins", x.act(4, 3, t), 24 * 2 - (1 ^ 4) ^ 5);
        ran(x, "moved joins", 50, 2, 10, 1, 11);
        check.due("own joins", x.act(5, 3, t), 58 - ((1 ^ 5) * 3 - 10) + 1);
        ran(x, "own joins", 61, 2, 41, 10, 20, 1, 60, 40, 11, 20, 1);
        check.due("lacking joins", x.act(7, 3, t), -60 + (2 ^ 7) - (1 ^ 7) - 1);
        ran(x, "lacking joins", 81, 2, 80, 30, 10, 20, 1, 11, 11);
    }

    private static void wraps() {
        WhatWasSaid x = kinds();
        check.due("says", x.act(1, 0, Integer.MAX_VALUE), Integer.MIN_VALUE + 3);
        check.due("takes", x.act(0, 1, Integer.MAX_VALUE), -2);
        check.due("joined takes", x.act(3, 1, Integer.MAX_VALUE), (Integer.MIN_VALUE + 6) * 2);
        check.due("joined mends", x.act(3, 2, Integer.MAX_VALUE), (Integer.MAX_VALUE ^ 3) * 3);
        check.due("entry mends", x.act(0, 2, Integer.MIN_VALUE), Integer.MIN_VALUE);
    }

    private static void trace() {
        WhatWasSaid x = kinds();
        check.due("no act yet", x.trace(0), -1);
        x.act(5, 3, 0);
        x.body(0);
        x.keep(0, 0);
        ran(x, "the latest act, other calls behind it", 61, 2, 41, 10, 20, 1, 60, 40, 11, 20, 1);
        x.act(0, 0, 0);
        ran(x, "a shorter act behind a longer", 1);
        check.due("place far off", x.trace(Integer.MAX_VALUE), -1);
        check.due("place below", x.trace(Integer.MIN_VALUE), -1);
    }

    private static void refused() {
        WhatWasSaid x = kinds();
        int[][] bad = {{-1, 0}, {8, 0}, {0, -1}, {0, 4}, {Integer.MIN_VALUE, 0}, {0, Integer.MAX_VALUE}};
        for (int[] call : bad) {
            x.act(5, 3, 1);
            check.due("act(" + call[0] + ", " + call[1] + ")", x.act(call[0], call[1], 1), 0);
            ran(x, "a refused act");
        }
    }
}
