import java.util.Random;

/** Random runs of 512 calls, each answer held against the Model's; the seeds are fixed. */
public final class RandomRunsTest {
    private static final Check check = new Check();
    private static final int RUNS = 3000;
    private static final int[] STRANGE = {Integer.MIN_VALUE, Integer.MIN_VALUE + 1, -14, -2, -1, 0, 1, 7, 8, 10, 11, 15,
        16, 17, 60, 61, 99, 100, 255, 256, 1000, 65536, Integer.MAX_VALUE - 1, Integer.MAX_VALUE};

    private final Random random;
    private final WhatWasSaid x = new WhatWasSaid();
    private final Model m = new Model();
    private int calls = 0;
    private final StringBuilder run = new StringBuilder();
    private boolean failed = false;

    private RandomRunsTest(long seed) {
        random = new Random(seed);
    }

    public static void main(String[] args) {
        int failed = 0;
        for (int seed = 0; seed < RUNS && failed < 3; seed++) {
            RandomRunsTest test = new RandomRunsTest(seed);
            test.play(seed);
            failed += test.failed ? 1 : 0;
        }
        check.end();
    }

    private void play(int seed) {
        int sayings = random.nextInt(20);
        for (int i = 0; i < sayings; i++) {
            one(0);
        }
        int writers = random.nextInt(6);
        for (int i = 0; i < writers && calls < 380; i++) {
            one(6);
        }
        int papers = random.nextInt(6);
        for (int i = 0; i < papers && calls < 500; i++) {
            one(random.nextBoolean() ? 8 : 9);
        }
        while (calls < 512 && !failed) {
            one(random.nextInt(38));
        }
        if (failed) {
            System.out.println("seed " + seed + ": " + run);
        }
    }

    private void due(String call, long got, long want) {
        calls++;
        run.append(call).append("; ");
        check.due(call, got, want);
        failed |= got != want;
    }

    /** Mostly from least to greatest, now and then beside it or far off. */
    private int in(int least, int greatest) {
        int dice = random.nextInt(40);
        if (dice == 0) {
            return STRANGE[random.nextInt(STRANGE.length)];
        }
        if (dice == 1) {
            return random.nextBoolean() ? least - 1 : greatest + 1;
        }
        return least + random.nextInt(Math.max(1, greatest - least + 1));
    }

    private int aSaying() {
        return in(0, Math.max(0, m.count(0) - 1));
    }

    private int aWriter() {
        return in(0, Math.max(0, m.count(1) - 1));
    }

    private int aPaper() {
        return in(0, Math.max(0, m.count(2) - 1));
    }

    private int aBody() {
        return in(0, Math.max(0, m.count(5) - 1));
    }

    private void one(int which) {
        if (which < 8) {
            sayingOrWriter(which);
        } else if (which < 16) {
            paperCall(which);
        } else if (which < 28) {
            yearsAfter(which);
        } else {
            actOrShelf(which);
        }
    }

    private void sayingOrWriter(int which) {
        int a = aSaying();
        int b = in(0, 4);
        switch (which) {
            case 0: {
                int ws = random.nextInt(30) == 0 ? in(0, 120) : 10 * in(0, 10) + in(0, 3);
                int ol = random.nextInt(30) == 0 ? in(0, 900) : 100 * in(0, random.nextBoolean() ? 1 : 7) + in(1, 30);
                due("saying(" + ws + ", " + ol + ")", x.saying(ws, ol), m.saying(ws, ol));
                break;
            }
            case 1: {
                int shelf = in(0, 5);
                int i = random.nextBoolean() ? 0 : in(0, 20);
                int n = in(1, 15);
                if (random.nextInt(3) > 0 && calls < 500) {
                    fillWithSayings(shelf);
                }
                due("sayings(" + shelf + ", " + i + ", " + n + ")", x.sayings(shelf, i, n), m.sayings(shelf, i, n));
                break;
            }
            case 2: case 3: {
                int what = in(0, 3);
                int v = what == 0 ? in(0, 10) : what == 1 ? in(0, 3) : what == 2 ? in(0, 7) : in(1, 30);
                due("mend(" + a + ", " + what + ", " + v + ")", x.mend(a, what, v), m.mend(a, what, v));
                break;
            }
            case 4:
                due("of(" + a + ", " + b + ")", x.of(a, b), m.of(a, b));
                break;
            case 5: {
                int letter = random.nextInt(4) == 0 ? in(0, 255) : "wkolimsn0123456789+-*/%<=>|&!()?;".charAt(
                        random.nextInt(33));
                due("feed(" + letter + ")", x.feed(letter), m.feed(letter));
                break;
            }
            case 6:
                writeLaw();
                break;
            default: {
                int writer = aWriter();
                due("heed(" + writer + ", " + a + ")", x.heed(writer, a), m.heed(writer, a));
            }
        }
    }

    private void fillWithSayings(int shelf) {
        int n = in(0, 30);
        due("row(" + shelf + ", 0, " + n + ")", x.row(shelf, 0, n), m.row(shelf, 0, n));
        for (int i = 0; i < n && i < 60 && calls < 500; i++) {
            int v = random.nextInt(60) == 0 ? -1 : i % 4 == 0 ? in(0, 10) : i % 4 == 1 ? in(0, 3)
                    : i % 4 == 2 ? in(0, 7) : in(1, 30);
            due("put(" + shelf + ", " + i + ", " + v + ")", x.put(shelf, i, v), m.put(shelf, i, v));
        }
    }

    private void writeLaw() {
        StringBuilder text = new StringBuilder(TextMaker.text(random));
        if (random.nextInt(4) == 0 && text.length() > 0) {
            text.setCharAt(random.nextInt(text.length()), "wkolimsn059+-*/%<=>|&!()?;x".charAt(random.nextInt(27)));
        }
        for (int i = 0; i < text.length() && calls < 510; i++) {
            due("feed(" + (int) text.charAt(i) + ")", x.feed(text.charAt(i)), m.feed(text.charAt(i)));
        }
        int me = in(0, 10);
        int habits = in(0, 7);
        due("writer(" + me + ", " + habits + ")", x.writer(me, habits), m.writer(me, habits));
        for (int writer = 0; writer < m.count(1) && calls < 300; writer++) {
            int saying = aSaying();
            due("heed(" + writer + ", " + saying + ")", x.heed(writer, saying), m.heed(writer, saying));
        }
    }

    private void paperCall(int which) {
        int paper = aPaper();
        int saying = aSaying();
        int writer = aWriter();
        switch (which) {
            case 8: {
                int seed = random.nextInt();
                due("take(" + writer + ", " + seed + ")", x.take(writer, seed), m.take(writer, seed));
                break;
            }
            case 9: {
                int by = random.nextBoolean() ? -1 : writer;
                int bits = random.nextInt(20) == 0 ? in(0, 65535) : random.nextInt(1 << m.count(0));
                due("told(" + by + ", " + bits + ")", x.told(by, bits), m.told(by, bits));
                break;
            }
            case 10: {
                int i = in(0, Math.max(0, m.page(paper, 0)));
                due("add(" + paper + ", " + saying + ", " + i + ")", x.add(paper, saying, i), m.add(paper, saying, i));
                break;
            }
            case 11: {
                int i = in(0, Math.max(0, m.page(paper, 0) - 1));
                due("strike(" + paper + ", " + i + ")", x.strike(paper, i), m.strike(paper, i));
                break;
            }
            case 12: {
                int who = in(0, 10);
                due("read(" + paper + ", " + who + ")", x.read(paper, who), m.read(paper, who));
                break;
            }
            case 13: {
                int n = in(0, 16);
                due("cut(" + paper + ", " + n + ")", x.cut(paper, n), m.cut(paper, n));
                break;
            }
            case 14: {
                int what = random.nextInt(3) == 0 ? in(0, 3) : 100 * in(1, 16) + in(0, 3);
                due("page(" + paper + ", " + what + ")", x.page(paper, what), m.page(paper, what));
                break;
            }
            default:
                due("led(" + paper + ", " + saying + ")", x.led(paper, saying), m.led(paper, saying));
        }
    }

    private void yearsAfter(int which) {
        int paper = aPaper();
        int saying = aSaying();
        int what = in(0, 1);
        switch (which) {
            case 16:
                due("sure(" + saying + ", " + what + ")", x.sure(saying, what), m.sure(saying, what));
                break;
            case 17:
                due("only()", x.only(), m.only());
                break;
            case 18: {
                int pq = 10 * aPaper() + paper;
                due("fight(" + pq + ", " + what + ")", x.fight(pq, what), m.fight(pq, what));
                break;
            }
            case 19: {
                int i = in(0, 15);
                due("order(" + i + ")", x.order(i), m.order(i));
                break;
            }
            case 20: {
                int prior = in(1, 99);
                due("said(" + saying + ", " + prior + ", " + what + ")", x.said(saying, prior, what),
                        m.said(saying, prior, what));
                break;
            }
            case 21:
                due("whose(" + paper + ")", x.whose(paper), m.whose(paper));
                break;
            case 22: {
                int bits = in(1, (1 << m.count(2)) - 1);
                due("learnt(" + bits + ", " + what + ")", x.learnt(bits, what), m.learnt(bits, what));
                break;
            }
            case 23:
                due("asleep(" + paper + ", " + what + ")", x.asleep(paper, what), m.asleep(paper, what));
                break;
            case 24:
                due("ask(" + what + ")", x.ask(what), m.ask(what));
                break;
            case 25: {
                int writer = aWriter();
                int years = in(0, 99);
                due("years(" + writer + ", " + years + ")", x.years(writer, years), m.years(writer, years));
                break;
            }
            case 26:
                due("undo()", x.undo(), m.undo());
                break;
            default:
                due("redo()", x.redo(), m.redo());
        }
    }

    private void actOrShelf(int which) {
        int shelf = in(0, 5);
        int i = in(0, random.nextBoolean() ? 5 : 59);
        int kind = in(0, 7);
        int n = in(0, random.nextBoolean() ? 6 : 60);
        switch (which) {
            case 28:
                due("body(" + kind + ")", x.body(kind), m.body(kind));
                break;
            case 29: {
                int body = aBody();
                int act = in(0, 3);
                int v = random.nextBoolean() ? random.nextInt() : in(0, 100);
                due("act(" + body + ", " + act + ", " + v + ")", x.act(body, act, v), m.act(body, act, v));
                break;
            }
            case 30:
                due("trace(" + i + ")", x.trace(i), m.trace(i));
                break;
            case 31: {
                int body = random.nextInt(4) == 0 ? -1 : aBody();
                due("keep(" + shelf + ", " + body + ")", x.keep(shelf, body), m.keep(shelf, body));
                break;
            }
            case 32: {
                int sort = in(0, 4);
                due("row(" + shelf + ", " + sort + ", " + n + ")", x.row(shelf, sort, n), m.row(shelf, sort, n));
                break;
            }
            case 33: {
                long v = random.nextLong() >> random.nextInt(64);
                due("put(" + shelf + ", " + i + ", " + v + ")", x.put(shelf, i, v), m.put(shelf, i, v));
                break;
            }
            case 34:
                due("element(" + shelf + ", " + i + ")", x.element(shelf, i), m.element(shelf, i));
                break;
            case 35: {
                int other = random.nextInt(3) == 0 ? shelf : in(0, 5);
                int j = in(0, 5);
                due("shift(" + shelf + ", " + i + ", " + other + ", " + j + ", " + n + ")",
                        x.shift(shelf, i, other, j, n), m.shift(shelf, i, other, j, n));
                break;
            }
            case 36:
                due("taken(" + shelf + ", " + kind + ")", x.taken(shelf, kind), m.taken(shelf, kind));
                break;
            default: {
                int what = in(0, 6);
                due("count(" + what + ")", x.count(what), m.count(what));
            }
        }
    }
}
