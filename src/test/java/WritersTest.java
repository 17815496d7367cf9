/** Promises 6 to 8: the tape, writers and their texts, heed. */
public final class WritersTest {
    private static final Check check = new Check();

    public static void main(String[] args) {
        feed();
        writer();
        faults();
        openSigns();
        longTexts();
        names();
        signs();
        ranks();
        lines();
        heed();
        check.end();
    }

    private static void feed() {
        WhatWasSaid x = new WhatWasSaid();
        check.due("feed(-1)", x.feed(-1), -1);
        check.due("feed(256)", x.feed(256), -1);
        check.due("feed(0)", x.feed(0), 1);
        check.due("feed(255)", x.feed(255), 2);
        for (int i = 3; i <= 120; i++) {
            check.due("byte " + i, x.feed('1'), i);
        }
        check.due("the tape is full", x.feed('1'), -3);
        check.due("BAD ahead of FULL", x.feed(256), -1);
        check.due("bytes", x.count(3), 120);
        check.due("a faulty tape", x.writer(0, 0), -100);
        check.due("is empty then", x.count(3), 0);
        check.due("and takes bytes", x.feed('1'), 1);
    }

    private static void writer() {
        WhatWasSaid x = new WhatWasSaid();
        x.feed('7');
        int[][] bad = {{-1, 0}, {11, 0}, {0, -1}, {0, 8}};
        for (int[] call : bad) {
            check.due("writer(" + call[0] + ", " + call[1] + ")", x.writer(call[0], call[1]), -1);
        }
        check.due("the tape stays", x.count(3), 1);
        check.due("the first", x.writer(10, 7), 0);
        check.due("the tape is empty", x.count(3), 0);
        for (int i = 1; i < 4; i++) {
            check.due("writer " + i, Check.write(x, "5" + i, i, i), i);
        }
        x.feed('8');
        check.due("four are all", x.writer(0, 0), -3);
        check.due("BAD ahead of FULL", x.writer(11, 0), -1);
        check.due("the tape stays when full", x.count(3), 1);
        check.due("writers", x.count(1), 4);
        x.saying(0, 1);
        check.due("each has its own text", x.heed(0, 0), 7);
        check.due("each has its own text", x.heed(3, 0), 53);
    }

    private static void fault(String text, int place) {
        check.due("the fault of " + text, Check.writerOf(text), -100 - place);
    }

    private static void faults() {
        fault("", 0);
        fault("x", 0);
        fault(" ", 0);
        fault("1 ", 1);
        fault(")", 0);
        fault("1)", 1);
        fault("12345", 4);
        fault("w1", 1);
        fault("1w", 1);
        fault("1+", 2);
        fault("1+*", 2);
        fault("1;", 2);
        fault(";1", 0);
        fault("1;;2", 2);
        fault("?1", 0);
        fault("1?", 2);
        fault("1?2?3", 3);
        fault("1?2;3?4?5", 7);
        fault("(1?2)", 2);
        fault("(1;2)", 2);
        fault("(1", 2);
        fault("(", 1);
        fault("()", 1);
        fault("w<k<o", 3);
        fault("w<k=o", 3);
        fault("w=k>o", 3);
        fault("(w<k<o)", 4);
        fault("1&", 2);
        fault("1||2", 2);
        fault("1&&2", 2);
        fault("1==2", 2);
        fault("!", 1);
        fault("1!2", 1);
        fault("w(", 1);
        fault("(w)(", 3);
        fault("(w)k", 3);
        fault("W", 0);
        fault("a", 0);
        fault("1~2", 1);
        fault("\u00ff", 0);
        fault("1" + (char) 0, 1);
        String[] fine = {"0", "9999", "w<k&k<o", "(w<k)<o", "w<(k<o)", "1?2;3?4;5", "1--2", "1-!-2", "w*-k", "((((((w))))))",
            "1|2&3<4+5*6", "!!!---w", "-(w)-(k)"};
        for (String text : fine) {
            check.due("a text " + text, Check.writerOf(text), 0);
        }
    }

    private static void openSigns() {
        fault("(((((((1", 6);
        fault("!!!!!!!1", 6);
        fault("-------1", 6);
        fault("(!-(!-(", 6);
        fault("((((((", 6);
        fault("((((((1))))))+(((((((1", 20);
        check.due("closed ones are not open", Check.writerOf("((((((1))))))+((((((1))))))"), 0);
        check.due("a sign is open no longer than its O", Check.writerOf("!!!!!!1+!!!!!!1"), 0);
        check.due("- between is not open", Check.writerOf("------1-1-1-1-1-1-1-1-------1"), 0);
        fault("1--------1", 8);
        check.due("ahead of ( and within", Check.writerOf("(((!--w)))"), 0);
        fault("(((!--(w", 6);
        check.due("in the second line too", Check.writerOf("((((((1))))))?((((((1))))));!!!!!!1"), 0);
    }

    private static void longTexts() {
        check.due("a text of 119 bytes", Check.writerOf("1+".repeat(59) + "1"), 0);
        fault("1+".repeat(60), 120);
        check.due("sixty lines", Check.heedBy("0?1;".repeat(29) + "7", 0, 0, 0, 1), 7);
        check.due("a text of 120 signs", Check.heedBy("1+".repeat(58) + "1*-1", 0, 0, 0, 1), 57);
        check.due("names only", Check.heedBy("l|".repeat(59) + "ll".substring(1), 0, 0, 0, 1), 1);
    }

    private static void names() {
        int[] row = {31, 205, 42, 206, 53, 307, 33, 208};
        check.due("w", Check.heedBy("w", 0, 2, row), 5);
        check.due("k", Check.heedBy("k", 0, 2, row), 3);
        check.due("o", Check.heedBy("o", 0, 2, row), 3);
        check.due("l", Check.heedBy("l", 0, 2, row), 7);
        check.due("i", Check.heedBy("i", 0, 2, row), 2);
        check.due("m", Check.heedBy("m", 0, 2, row), 11);
        check.due("m of the first", Check.heedBy("m", 0, 0, row), 0);
        check.due("s by self", Check.heedBy("s", 5, 2, row), 1);
        check.due("s by another", Check.heedBy("s", 4, 2, row), 0);
        check.due("n", Check.heedBy("n", 0, 3, row), 2);
        check.due("n of the first on it", Check.heedBy("n", 0, 2, row), 0);
        check.due("n of the second on it", Check.heedBy("n", 0, 1, row), 1);
    }

    private static void tells(String text, int value) {
        check.due(text, Check.heedBy("(" + text + ")+50", 0, 0, 0, 1), Math.max(0, Math.min(100, 50 + value)));
        check.due(text + " is just that", Check.heedBy("(" + text + ")+" + (value < 0 ? -value : 0) + "-"
                + (value < 0 ? 0 : value) + "=0", 0, 0, 0, 1), 1);
    }

    private static void signs() {
        tells("7+5", 12);
        tells("7-5", 2);
        tells("5-7", -2);
        tells("7*5", 35);
        tells("17/5", 3);
        tells("-17/5", -3);
        tells("17/-5", -3);
        tells("-17%5", -2);
        tells("17%-5", 2);
        tells("17/0", 0);
        tells("17%0", 0);
        tells("2<3", 1);
        tells("3<3", 0);
        tells("3=3", 1);
        tells("3=2", 0);
        tells("3>2", 1);
        tells("3>3", 0);
        tells("0|0", 0);
        tells("0|5", 1);
        tells("5|0", 1);
        tells("5|5", 1);
        tells("0&5", 0);
        tells("5&0", 0);
        tells("5&7", 1);
        tells("!0", 1);
        tells("!7", 0);
        tells("!!7", 1);
        tells("--7", 7);
        tells("-7", -7);
        tells("0009", 9);
        tells("9999*9999*9999*9999%100", (int) (9999L * 9999 * 9999 * 9999) % 100);
        tells("(-2*8192*8192*16)/-1/1000/1000", -2147);
        tells("1-(-2*8192*8192*16)<0", 1);
        tells("(8192*8192*32-1+1<0)", 1);
        tells("(8192*8192*32)/-1=8192*8192*32", 1);
        tells("(8192*8192*32)%-1", 0);
    }

    private static void ranks() {
        tells("2+3*4", 14);
        tells("2*3+4", 10);
        tells("(2+3)*4", 20);
        tells("9-3-2", 4);
        tells("40/4/5", 2);
        tells("40/4*5", 50);
        tells("17%10%4", 3);
        tells("1+1<1+2", 1);
        tells("1<2&2<1", 0);
        tells("1|0&0", 1);
        tells("(1|0)&0", 0);
        tells("0&0|1", 1);
        tells("!0+5", 6);
        tells("!(0+5)", 0);
        tells("-2*3", -6);
        tells("-(2-5)", 3);
        tells("!2<1", 1);
        tells("1-!0-1", -1);
        tells("1--2", 3);
        tells("5=5&3", 1);
    }

    private static void lines() {
        int[] row = {1, 105, 2, 206, 0, 107};
        check.due("the first line counts", Check.heedBy("k=1?40;k=2?60", 0, 0, row), 40);
        check.due("the second line", Check.heedBy("k=1?40;k=2?60", 0, 1, row), 60);
        check.due("none", Check.heedBy("k=1?40;k=2?60", 0, 2, row), 0);
        check.due("a line without a first", Check.heedBy("k=1?40;30;k=0?60", 0, 2, row), 30);
        check.due("a first that is 5", Check.heedBy("5?40", 0, 0, row), 40);
        check.due("a first that is below 0", Check.heedBy("-5?40;7", 0, 0, row), 40);
        check.due("a first that is 0", Check.heedBy("5-5?40;7", 0, 0, row), 7);
        check.due("a line that tells 0 counts", Check.heedBy("1?0;7", 0, 0, row), 0);
        check.due("the first of two that hold", Check.heedBy("1?3;1?4", 0, 0, row), 3);
    }

    private static void heed() {
        check.due("100 at most", Check.heedBy("101", 0, 0, 0, 1), 100);
        check.due("9999", Check.heedBy("9999", 0, 0, 0, 1), 100);
        check.due("0 at least", Check.heedBy("-1", 0, 0, 0, 1), 0);
        check.due("in between", Check.heedBy("99", 0, 0, 0, 1), 99);
        WhatWasSaid x = new WhatWasSaid();
        x.saying(0, 1);
        Check.write(x, "l*10", 0, 0);
        check.due("writer -1", x.heed(-1, 0), -1);
        check.due("writer 1", x.heed(1, 0), -1);
        check.due("saying -1", x.heed(0, -1), -1);
        check.due("saying 1", x.heed(0, 1), -1);
        check.due("heed", x.heed(0, 0), 10);
        x.mend(0, 3, 4);
        check.due("of what it is now", x.heed(0, 0), 40);
        x.undo();
        check.due("of what it is again", x.heed(0, 0), 10);
    }
}
