/** Counts the answers of one test that are not as due, and prints each of them. */
final class Check {
    private int wrong = 0;
    private int asked = 0;
    private String heading = "";

    /** What is printed ahead of each answer that is not as due, from now on. */
    void under(String newHeading) {
        heading = newHeading;
    }

    int asked() {
        return asked;
    }

    void due(String call, long got, long want) {
        asked++;
        if (got != want) {
            wrong++;
            System.out.println(heading + call + " answered " + got + ", due is " + want);
        }
    }

    void holds(String what, boolean truth) {
        asked++;
        if (!truth) {
            wrong++;
            System.out.println(heading + "does not hold: " + what);
        }
    }

    void end() {
        System.out.println(asked + " answers, " + wrong + " not as due");
        if (wrong != 0 || asked == 0) {
            System.exit(1);
        }
    }

    /** Feeds a text and makes it a writer. */
    static int write(WhatWasSaid x, String text, int me, int habits) {
        for (int i = 0; i < text.length(); i++) {
            x.feed(text.charAt(i));
        }
        return x.writer(me, habits);
    }

    /** The heed that a text tells of a saying, on a new writer of an object made for it. */
    static int heedBy(String text, int me, int saying, int... sayings) {
        WhatWasSaid x = new WhatWasSaid();
        for (int i = 0; i + 1 < sayings.length; i += 2) {
            x.saying(sayings[i], sayings[i + 1]);
        }
        int writer = write(x, text, me, 0);
        return writer < 0 ? writer : x.heed(writer, saying);
    }

    /** What writer() answers for a text on a new object. */
    static int writerOf(String text) {
        return write(new WhatWasSaid(), text, 0, 0);
    }

    /** A paper's first sayings in their order, as digits of base 16 behind a leading 1. */
    static long rowOf(WhatWasSaid x, int paper) {
        long row = 1;
        for (int place = 0; place < x.page(paper, 0); place++) {
            row = row * 16 + x.page(paper, 100 * (1 + place));
        }
        return row;
    }

    /** A paper of nobody's with these sayings in this order. */
    static void paper(WhatWasSaid x, int... row) {
        int paper = x.told(-1, 0);
        for (int i = 0; i < row.length; i++) {
            x.add(paper, row[i], i);
        }
    }
}
