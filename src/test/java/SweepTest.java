import java.lang.reflect.Method;
import java.util.ArrayList;
import java.util.List;

/**
 * Each call of the face with each row of arguments from far below to far above what is told, on a new object, on one
 * of some and on one that is full: each answer, and what count() tells behind it, held against the Model's.
 */
public final class SweepTest {
    private static final Check check = new Check();
    private static final int MIN = Integer.MIN_VALUE;
    private static final int MAX = Integer.MAX_VALUE;
    /** The arguments of a call of none, one, two, three and five. */
    private static final int[][] ARGUMENTS = {
        {},
        {MIN, MIN + 1, -65536, -257, -256, -101, -100, -99, -15, -14, -13, -12, -11, -10, -6, -5, -4, -3, -2, -1, 0, 1, 2, 3, 4,
            5, 6, 7, 8, 9, 10, 11, 12, 13, 14, 15, 16, 17, 23, 24, 25, 29, 30, 31, 32, 33, 49, 50, 51, 59, 60, 61, 99, 100,
            101, 110, 111, 119, 120, 121, 127, 128, 254, 255, 256, 257, 1023, 1024, 65535, 65536, MAX - 1, MAX},
        {MIN, MIN + 1, -101, -100, -14, -11, -10, -2, -1, 0, 1, 2, 3, 4, 5, 7, 8, 10, 11, 12, 13, 14, 15, 16, 17, 20, 21, 29, 30,
            31, 32, 33, 49, 50, 51, 59, 60, 61, 98, 99, 100, 101, 102, 103, 104, 105, 109, 110, 111, 130, 131, 199, 200,
            203, 204, 300, 303, 400, 700, 730, 731, 800, 801, 1023, 1024, 1600, 1603, 1700, 65535, 65536, MAX - 1, MAX},
        {MIN, -100, -2, -1, 0, 1, 2, 3, 4, 5, 7, 8, 10, 11, 14, 15, 16, 17, 30, 31, 32, 50, 59, 60, 61, 99, 100, MAX},
        {},
        {MIN, -1, 0, 1, 2, 3, 4, 6, MAX},
    };
    /** With the calls that bring an object to its state fewer than 512. */
    private static final int MOST_ON_ONE = 250;
    private static final String ONLY_TELL = " of heed page led sure only fight order said whose learnt asleep ask years"
            + " trace element taken count ";

    private final int state;
    private final Method call;
    private final Method model;
    private WhatWasSaid x;
    private Model m;
    private int calls = MOST_ON_ONE;

    private SweepTest(int state, Method call) throws ReflectiveOperationException {
        this.state = state;
        this.call = call;
        model = Model.class.getDeclaredMethod(call.getName(), call.getParameterTypes());
    }

    public static void main(String[] args) throws ReflectiveOperationException {
        for (int state = 0; state < 3; state++) {
            for (Method call : WhatWasSaid.class.getDeclaredMethods()) {
                if (java.lang.reflect.Modifier.isPublic(call.getModifiers())) {
                    new SweepTest(state, call).sweep(new ArrayList<>());
                }
            }
        }
        check.end();
    }

    private void sweep(List<Integer> row) throws ReflectiveOperationException {
        if (row.size() == call.getParameterCount()) {
            ask(row);
            return;
        }
        for (int v : ARGUMENTS[call.getParameterCount()]) {
            row.add(v);
            sweep(row);
            row.remove(row.size() - 1);
        }
    }

    private void ask(List<Integer> row) throws ReflectiveOperationException {
        boolean tells = ONLY_TELL.contains(" " + call.getName() + " ");
        if (!tells || calls >= MOST_ON_ONE) {
            x = new WhatWasSaid();
            m = new Model();
            bring();
            calls = 0;
        }
        Object[] arguments = new Object[row.size()];
        for (int i = 0; i < arguments.length; i++) {
            boolean isLong = call.getParameterTypes()[i] == long.class;
            arguments[i] = isLong ? (Object) (long) row.get(i) : (Object) row.get(i);
        }
        calls++;
        long got = ((Number) call.invoke(x, arguments)).longValue();
        long want = ((Number) model.invoke(m, arguments)).longValue();
        check.due(got == want ? "" : call.getName() + row + " on state " + state, got, want);
        if (!tells) {
            counts(row);
        }
    }

    private void counts(List<Integer> row) {
        for (int what = 0; what <= 6; what++) {
            int got = x.count(what);
            int want = m.count(what);
            if (got != want) {
                check.due("count(" + what + ") behind " + call.getName() + row + " on state " + state, got, want);
            }
        }
    }

    /** Brings both to the state: 0 new, 1 some of all, 2 as much as there may be of what is not dear. */
    private void bring() {
        int sayings = state == 0 ? 0 : state == 1 ? 5 : 16;
        for (int i = 0; i < sayings; i++) {
            int ws = 10 * (i % 11) + i % 4;
            int ol = 100 * (i % 8) + 1 + i * 3 % 30;
            x.saying(ws, ol);
            m.saying(ws, ol);
        }
        int writers = state * 2;
        for (int i = 0; i < writers; i++) {
            write(i % 2 == 0 ? "l*9" : "i", 3 * i, i);
        }
        int papers = state * 5;
        for (int i = 0; i < papers; i++) {
            int bits = 0x9d5b >> i & (1 << sayings) - 1;
            x.told(i % (writers + 1) - 1, bits);
            m.told(i % (writers + 1) - 1, bits);
        }
        int bodies = state * 25;
        for (int i = 0; i < bodies; i++) {
            x.body(i % 8);
            m.body(i % 8);
        }
        if (state > 0) {
            bringShelvesAndChanges();
        }
    }

    private void write(String text, int me, int habits) {
        for (int i = 0; i < text.length(); i++) {
            x.feed(text.charAt(i));
            m.feed(text.charAt(i));
        }
        x.writer(me, habits);
        m.writer(me, habits);
    }

    private void bringShelvesAndChanges() {
        for (int i = 0; i < state * 2; i++) {
            x.mend(i, 3, 30 - i);
            m.mend(i, 3, 30 - i);
        }
        x.undo();
        m.undo();
        x.keep(1, 5);
        m.keep(1, 5);
        int length = state == 1 ? 4 : 60;
        for (int sort = 0; sort < 3; sort++) {
            x.row(2 + sort, sort % 2, length);
            m.row(2 + sort, sort % 2, length);
            x.put(2 + sort, 3, 7);
            m.put(2 + sort, 3, 7);
        }
        x.act(7, 3, 9);
        m.act(7, 3, 9);
        for (int i = 0; i < (state == 2 ? 120 : 1); i++) {
            x.feed('7');
            m.feed('7');
        }
    }
}
