import static java.lang.Integer.MAX_VALUE;
import static java.lang.Integer.MIN_VALUE;

/** The boundary cases of the tape, of writers and their texts: promises 6 to 8, and what the terms say of them. */
final class WriterEdges {
    /** The least int: 8192 * 8192 * 32 wraps. */
    private static final String LEAST = "8192*8192*32";
    private final Edges e;

    WriterEdges(Edges e) {
        this.e = e;
    }

    void tell() {
        tape();
        writers();
        texts();
        numbers();
        faults();
        heeds();
    }

    private void text(String text, int heed) {
        e.due("heed by " + text, Check.heedBy(text, 0, 0, 0, 1), heed);
    }

    /** A text that tells 1, where it holds, in place of 0. */
    private void holds(String text) {
        text("77*(" + text + ")", 77);
    }

    private void fault(String text, int place) {
        e.due("the fault of " + text, Check.writerOf(text), -100 - place);
    }

    private void fine(String text) {
        e.due("a writer by " + text, Check.writerOf(text), 0);
    }

    private void tape() {
        e.at(Edges.TERMS, "THE TAPE (at most 120 bytes)", this::hundredAndTwenty);
        e.at(6, "A byte (0 .. 255)", this::bytes);
        e.at(6, "BAD", this::feedBad);
        e.at(6, "FULL (120)", this::feedFull);
    }

    private void hundredAndTwenty() {
        WhatWasSaid x = Edges.meeting(1);
        e.due("119 bytes", Check.write(x, "9" + "-0".repeat(59), 0, 0), 0);
        e.due("all of it is heard", x.heed(0, 0), 9);
        e.due("120 bytes", Check.write(x, "90" + "-0".repeat(59), 0, 0), 1);
        e.due("all of it is heard", x.heed(1, 0), 90);
        e.due("120 bytes that each are a sign of their own", Check.write(x, "!0" + "-0".repeat(59), 0, 0), 2);
        e.due("all of it is heard", x.heed(2, 0), 1);
        e.due("a text of 121", Check.write(x, "00" + "+0".repeat(58) + "+55", 0, 0), 3);
        e.due("the 121st byte did not come", x.heed(3, 0), 5);
    }

    private void bytes() {
        WhatWasSaid x = new WhatWasSaid();
        for (int letter : new int[] {0, 1, 127, 128, 254, 255}) {
            int before = x.count(3);
            e.due("feed(" + letter + ")", x.feed(letter), before + 1);
        }
        for (int letter = 0; letter <= 255; letter++) {
            WhatWasSaid y = new WhatWasSaid();
            y.feed(letter);
            boolean begins = "wkolimsn0123456789".indexOf(letter) >= 0;
            boolean goesOn = "!-(".indexOf(letter) >= 0;
            e.due("a text of the byte " + letter, y.writer(0, 0), begins ? 0 : goesOn ? -101 : -100);
        }
    }

    private void feedBad() {
        WhatWasSaid x = new WhatWasSaid();
        for (int letter : new int[] {MIN_VALUE, -256, -1, 256, 257, 256 + 'w', MAX_VALUE}) {
            e.due("feed(" + letter + ")", x.feed(letter), -1);
        }
        e.due("none came", x.count(3), 0);
    }

    private void feedFull() {
        WhatWasSaid x = new WhatWasSaid();
        for (int i = 1; i <= 120; i++) {
            e.due("byte " + i, x.feed('1'), i);
        }
        e.due("byte 121", x.feed('1'), -3);
        e.due("once more", x.feed('1'), -3);
        e.due("BAD is named ahead of it", x.feed(256), -1);
        e.due("120 are there", x.count(3), 120);
        x.writer(0, 0);
        e.due("room again", x.feed('1'), 1);
    }

    private void writers() {
        e.at(Edges.TERMS, "WRITERS 0 .. 3", this::fourWriters);
        e.at(Edges.TERMS, "SELF (0 .. 10)", this::selves);
        e.at(Edges.TERMS, "HABITS (bits: 1 joins, 2 softens, 4 decisions last)", this::habits);
        e.at(7, "(of a SELF and HABITS 0 .. 7)", this::selfAndHabits);
        e.at(7, "-100 less its FAULT", this::hundredLess);
        e.at(7, "THE TAPE is empty then.", this::emptyThen);
        e.at(7, "BAD", this::writerBad);
        e.at(7, "FULL (it stays)", this::writerFull);
    }

    private void fourWriters() {
        WhatWasSaid x = Edges.meeting(1);
        for (int i = 0; i < 4; i++) {
            e.due("no writer " + i + " yet", x.heed(i, 0), -1);
            e.due("writer " + i, Check.write(x, "9" + i, 0, 0), i);
        }
        e.due("no writer 4", Check.write(x, "94", 0, 0), -3);
        for (int i = 0; i < 4; i++) {
            e.due("heed of " + i, x.heed(i, 0), 90 + i);
        }
        e.due("heed of 4", x.heed(4, 0), -1);
        e.due("four", x.count(1), 4);
    }

    private void selves() {
        for (int self : new int[] {0, 1, 9, 10}) {
            WhatWasSaid x = Edges.said(0, 1, 10, 1, 90, 1, 100, 1);
            e.due("self " + self, Check.write(x, "s*50", self, 0), 0);
            for (int i = 0; i < 4; i++) {
                e.due("by " + x.of(i, 0), x.heed(0, i), x.of(i, 0) == self ? 50 : 0);
            }
        }
    }

    /** A decision that comes last, two against that are softened, and joined: each habit changes them by itself. */
    private void habits() {
        for (int habits = 0; habits <= 7; habits++) {
            WhatWasSaid x = Edges.said(3, 101, 0, 201, 2, 301, 2, 302);
            Check.write(x, "100", 9, habits);
            x.take(0, 0);
            boolean joins = (habits & 1) != 0;
            boolean softens = (habits & 2) != 0;
            boolean last = (habits & 4) != 0;
            e.due("entries by " + habits, x.page(0, 0), joins ? 3 : 4);
            e.due("sort by " + habits, x.page(0, last ? 201 : 301), softens ? 0 : 2);
            e.due("the first by " + habits, x.page(0, 100), last ? 1 : 0);
        }
    }

    private void selfAndHabits() {
        for (int habits : new int[] {0, 1, 6, 7}) {
            e.due("habits " + habits, Check.write(new WhatWasSaid(), "1", 0, habits), 0);
        }
        for (int habits : new int[] {MIN_VALUE, -1, 8, 9, MAX_VALUE}) {
            e.due("habits " + habits, Check.write(new WhatWasSaid(), "1", 0, habits), -1);
        }
        for (int self : new int[] {0, 1, 9, 10}) {
            e.due("self " + self, Check.write(new WhatWasSaid(), "1", self, 0), 0);
        }
        for (int self : new int[] {MIN_VALUE, -1, 11, 12, MAX_VALUE}) {
            e.due("self " + self, Check.write(new WhatWasSaid(), "1", self, 0), -1);
        }
    }

    private void hundredLess() {
        e.due("at place 0", Check.writerOf("?"), -100);
        e.due("at place 1", Check.writerOf("1w"), -101);
        e.due("at place 119", Check.writerOf("1+".repeat(59) + "1x"), -219);
        e.due("too early at 120", Check.writerOf("1+".repeat(60)), -220);
        WhatWasSaid x = new WhatWasSaid();
        Check.write(x, "1w", 0, 0);
        e.due("it is no writer", x.count(1), 0);
    }

    private void emptyThen() {
        WhatWasSaid x = Edges.meeting(1);
        Check.write(x, "55", 0, 0);
        e.due("behind a writer", x.count(3), 0);
        e.due("nothing is left of it", x.writer(0, 0), -100);
        Check.write(x, "1w", 0, 0);
        e.due("behind a fault", x.count(3), 0);
        e.due("nothing is left of that", Check.write(x, "7", 0, 0), 1);
        e.due("the next text alone", x.heed(1, 0), 7);
    }

    private void writerBad() {
        WhatWasSaid x = Edges.meeting(1);
        x.feed('5');
        int[][] bad = {{-1, 0}, {11, 0}, {0, -1}, {0, 8}, {11, 8}, {MIN_VALUE, 0}, {0, MAX_VALUE}};
        for (int[] call : bad) {
            e.due("writer(" + call[0] + ", " + call[1] + ")", x.writer(call[0], call[1]), -1);
            e.due("the tape stays", x.count(3), 1);
        }
        e.due("no writers", x.count(1), 0);
        e.due("what stayed", x.writer(0, 0), 0);
        e.due("is what was fed", x.heed(0, 0), 5);
        x.feed('w');
        x.feed('w');
        e.due("a faulty tape stays too", x.writer(11, 0), -1);
        e.due("as it was", x.writer(0, 0), -101);
    }

    private void writerFull() {
        WhatWasSaid x = Edges.meeting(1);
        for (int i = 0; i < 4; i++) {
            Check.write(x, "5", 0, 0);
        }
        e.due("an empty tape", x.writer(0, 0), -3);
        e.due("a text", Check.write(x, "77", 0, 0), -3);
        e.due("it stays", x.count(3), 2);
        e.due("once more", x.writer(10, 7), -3);
        e.due("still", x.feed('1'), 3);
        e.due("BAD is named ahead of it", x.writer(11, 0), -1);
        e.due("four", x.count(1), 4);
        e.due("as they were", x.heed(3, 0), 5);
    }

    private void texts() {
        e.at(Edges.TERMS, "LINES, one or more, parted by ;", this::oneLineOrMore);
        e.at(Edges.TERMS, "E, or E ? E (what counts if the first is not 0)", this::firstIsNot0);
        e.at(Edges.TERMS, "A { | A }. A = B { & B }. B = S, or S < S, S = S, S > S. S = P { + P, - P }. "
                + "P = O { * O, / O, % O }", this::noneOneOrMany);
        e.at(Edges.TERMS, "a number (1 to 4 digits)", this::digits);
        e.at(Edges.TERMS, "No blanks.", this::blanks);
        e.at(Edges.TERMS, "NAMES: w WHO, k the SORT, o ON, l LONG, i its number, m MINUTE, s 1, if it is by SELF",
                this::leastAndGreatest);
        e.at(Edges.TERMS, "n how many SAYINGS on the same are ahead of it", this::onTheSame);
        e.at(Edges.TERMS, "At most 6 of ( ! - ahead of an O are open at once.", this::sixOpen);
        e.at(Edges.TERMS, "The first LINE without a first E, or whose first E is not 0, counts; none: 0.",
                this::firstLine);
    }

    private void oneLineOrMore() {
        fault("", 0);
        text("8", 8);
        text("0?1;8", 8);
        text("0?1;".repeat(29) + "8", 8);
        text("8" + ";1".repeat(59), 8);
        fault(";", 0);
        fault(";8", 0);
        fault("8;", 2);
        fault("8;;8", 2);
        fault("1?;8", 2);
        fault("1?8;", 4);
        fault("(8;8)", 2);
    }

    private void firstIsNot0() {
        text("1?8", 8);
        text("-1?8", 8);
        text("9999?8", 8);
        text(LEAST + "?8", 8);
        text("0?8", 0);
        text("1-1?8", 0);
        text("8192*8192*64?8", 0);
        fault("1?2?3", 3);
        fault("(1?2)", 2);
        fault("?8", 0);
    }

    private void noneOneOrMany() {
        text("7", 7);
        text("0|7", 1);
        text("0|0|0|7", 1);
        text("3&7", 1);
        text("3&7&9&0", 0);
        text("7<9", 1);
        text("7=7", 1);
        text("9>7", 1);
        for (String two : new String[] {"1<2<3", "1<2=3", "1<2>3", "1=2<3", "1=2=3", "1>2>3"}) {
            fault(two, 3);
            fine(two.substring(0, 3) + "&1" + two.substring(3));
        }
        text("7+1+1+1", 10);
        text("9-1-1-1", 6);
        text("2*3*4", 24);
        text("80/4/5", 4);
        text("99%50%20", 9);
        String deepest = "0|1&1=0+1*(".repeat(6) + "0|1&1=0+1*w" + "))))))";
        e.due("1 through all signs of all levels", Check.heedBy(deepest, 0, 0, 10, 1), 1);
        e.due("0 through all signs of all levels", Check.heedBy(deepest, 0, 0, 0, 1), 0);
        fault("1++", 2);
        fault("1**2", 2);
        fault("1||2", 2);
        fault("1&&2", 2);
        fault("1=<2", 2);
    }

    private void digits() {
        text("7", 7);
        text("77", 77);
        holds("777=700+77");
        holds("9999=10*1000-1");
        text("0007", 7);
        text("0000", 0);
        fault("12345", 4);
        fault("00000", 4);
        fault("1+12345", 6);
        fault("(99999)", 5);
        fault("+", 0);
        fault("1+", 2);
    }

    private void blanks() {
        fault(" 1", 0);
        fault("1 ", 1);
        fault("1 +2", 1);
        fault("1+ 2", 2);
        fault("1;\n2", 2);
        fault("1\t", 1);
        fault("( 1)", 1);
    }

    /** Each name for the first of sixteen sayings, with the least of all, and for the last, with the greatest. */
    private void leastAndGreatest() {
        int[] row = new int[32];
        for (int i = 0; i < 16; i++) {
            row[2 * i] = 103;
            row[2 * i + 1] = 730;
        }
        row[0] = 0;
        row[1] = 1;
        String[] names = {"w", "k", "o", "l", "i", "m/10", "s", "n"};
        int[] least = {0, 0, 0, 1, 0, 0, 0, 0};
        int[] greatest = {10, 3, 7, 30, 15, 42, 1, 14};
        for (int i = 0; i < names.length; i++) {
            e.due(names[i] + " of the first", Check.heedBy(names[i], 10, 0, row), least[i]);
            e.due(names[i] + " of the last", Check.heedBy(names[i], 10, 15, row), greatest[i]);
        }
        e.due("s by another is just 0", Check.heedBy("s+50", 10, 0, row), 50);
        e.due("s by self is just 1", Check.heedBy("s+50", 10, 15, row), 51);
        for (String none : new String[] {"a", "W", "K", "j", "x", "_", "0w"}) {
            fault(none, none.length() - 1);
        }
    }

    private void onTheSame() {
        WhatWasSaid x = new WhatWasSaid();
        for (int i = 0; i < 16; i++) {
            x.saying(0, 701);
        }
        Check.write(x, "n", 0, 0);
        for (int i = 0; i < 16; i++) {
            e.due("n of " + i, x.heed(0, i), i);
        }
        x.mend(0, 2, 6);
        e.due("one less", x.heed(0, 15), 14);
        e.due("none", x.heed(0, 0), 0);
        e.due("none ahead", x.heed(0, 1), 0);
    }

    /** All rows of six of the three signs go on, a seventh does not. */
    private void sixOpen() {
        String signs = "(!-";
        for (int code = 0; code < 729; code++) {
            StringBuilder open = new StringBuilder();
            StringBuilder close = new StringBuilder();
            for (int i = 0, rest = code; i < 6; i++, rest /= 3) {
                open.append(signs.charAt(rest % 3));
                close.append(rest % 3 == 0 ? ")" : "");
            }
            fine(open + "w" + close);
            fault(open + "!w" + close, 6);
            fault(open + "-1" + close, 6);
            fault(open + "(1)" + close, 6);
            fault(open.toString(), 6);
        }
        for (String beginning : new String[] {"1?", "1;", "1?1;", "1;1?", "1+", "1&", "(1)-"}) {
            fine(beginning + "((((((1))))))");
            fault(beginning + "(((((((1", beginning.length() + 6);
        }
        fine("((((((1))))))*((((((1))))))");
        fine("(((((-1)))))+(((((!1)))))");
        fine("!!!!!!1-!!!!!!1");
        fine("------1-------1");
        fault("------1--------1", 14);
        fine("(((((1-1-1-1-1-1-1-1)))))");
        fine("(((((1)+(1))+(1))+(1))+(1))");
        fault("((((((1)+(1))+(1))+(1))+(1))+((((((1", 34);
    }

    private void firstLine() {
        text("4;5", 4);
        text("0;5", 0);
        text("0?4;5;6", 5);
        text("0?4;1?5;6", 5);
        text("0?4;0?5;6", 6);
        text("0?4", 0);
        text("0?4;0?5", 0);
        text("0?4;w?5;k?6;o?7", 0);
        WhatWasSaid x = Edges.meeting(1);
        Check.write(x, "0?4;5;6", 0, 0);
        Check.write(x, "0?4", 0, 0);
        e.due("nor a line of the text ahead of it on the tape", x.heed(1, 0), 0);
    }

    private void numbers() {
        e.at(Edges.TERMS, "Ints that wrap", this::wraps);
        e.at(Edges.TERMS, "/ and % toward 0", this::towardZero);
        e.at(Edges.TERMS, "by 0 they give 0", this::byZero);
        e.at(Edges.TERMS, "| & < = > ! give 1, 0", this::oneOrZero);
        e.at(Edges.TERMS, "HEED (held within 0 .. 100)", this::heldWithin);
    }

    private void wraps() {
        holds(LEAST + "<0");
        holds(LEAST + "-1>0");
        holds(LEAST + "-1+1=" + LEAST);
        holds("8192*8192*64=0");
        holds("-(" + LEAST + ")=" + LEAST);
        holds("-(" + LEAST + ")<0");
        holds("0-" + LEAST + "<0");
        holds(LEAST + "/-1=" + LEAST);
        holds(LEAST + "*-1<0");
        holds("!(" + LEAST + "*2)");
        holds(LEAST + "<" + LEAST + "-1");
        holds("8192*8192*33=" + LEAST + "+8192*8192");
    }

    private void towardZero() {
        holds("7/2=3");
        holds("-7/2=-3");
        holds("7/-2=-3");
        holds("-7/-2=3");
        holds("7%2=1");
        holds("-7%2=-1");
        holds("7%-2=1");
        holds("-7%-2=-1");
        holds("-1/2=0");
        holds("(-1%2)<0");
        holds(LEAST + "%-1=0");
        holds(LEAST + "/9999+2147*100+69=0");
    }

    private void byZero() {
        for (String above : new String[] {"7", "-7", "0", LEAST, LEAST + "-1"}) {
            holds("(" + above + ")/0=0");
            holds("(" + above + ")%0=0");
            holds("(" + above + ")/(1-1)=0");
            holds("(" + above + ")%w=0");
        }
        text("7/0+8", 8);
    }

    private void oneOrZero() {
        String[] ones = {"5|7", "5|0", "0|5", "-1|0", "5&7", "-1&-2", "-1<0", "5=5", "-1=-1", "0>-1", "!0", "!!5",
            LEAST + "|0", "1&" + LEAST};
        for (String text : ones) {
            text(text, 1);
        }
        String[] zeros = {"0|0", "5&0", "0&5", "0&0", "5<5", "5<4", "5=4", "5>5", "4>5", "!5", "!-1", "!!0",
            "!(" + LEAST + ")"};
        for (String text : zeros) {
            holds("(" + text + ")=0");
        }
    }

    private void heldWithin() {
        text("-9999", 0);
        text("-1", 0);
        text("0", 0);
        text("1", 1);
        text("99", 99);
        text("100", 100);
        text("101", 100);
        text("9999", 100);
        text(LEAST, 0);
        text(LEAST + "-1", 100);
    }

    private void faults() {
        e.at(Edges.TERMS, "FAULT: the place (from 0) of the first byte with which no TEXT goes on",
                this::noTextGoesOn);
        e.at(Edges.TERMS, "the length, if it ends too early.", this::tooEarly);
    }

    /** Each byte behind each beginning: those that go on, and all others. */
    private void noTextGoesOn() {
        String begin = "wkolimsn0123456789!-(";
        String behind = "+-*/%<=>|&";
        goesOn("", begin);
        goesOn("w", behind + "?;");
        goesOn("1", behind + "?;0123456789");
        goesOn("123", behind + "?;0123456789");
        goesOn("1234", behind + "?;");
        goesOn("(w", behind + ")");
        goesOn("((w)", behind + ")");
        goesOn("(w)", behind + "?;");
        goesOn("w<k", "+-*/%|&?;");
        goesOn("w=k*2", "+-*/%|&?;0123456789");
        goesOn("(w>k", "+-*/%|&)");
        goesOn("(w>k)", behind + "?;");
        goesOn("w<k|w", behind + "?;");
        goesOn("w<k&w", behind + "?;");
        goesOn("w<(k", behind + ")");
        goesOn("w?k", behind + ";");
        goesOn("w?k;w", behind + "?;");
        goesOn("w?k<o", "+-*/%|&;");
        for (String sign : new String[] {"w+", "w-", "w*", "w/", "w%", "w<", "w=", "w>", "w|", "w&", "w?", "w;", "(", "!",
            "-", "!!!!!", "(((((", "(!-(!"}) {
            goesOn(sign, begin);
        }
        goesOn("!!!!!!", "wkolimsn0123456789");
        goesOn("((((((", "wkolimsn0123456789");
        goesOn("------", "wkolimsn0123456789");
    }

    private void goesOn(String beginning, String with) {
        for (int letter = 0; letter <= 255; letter++) {
            int fault = -100 - Check.writerOf(beginning + (char) letter + "~");
            int due = with.indexOf(letter) >= 0 ? beginning.length() + 1 : beginning.length();
            e.due("the fault of " + beginning + " with " + letter + " behind it", fault, due);
        }
    }

    private void tooEarly() {
        fault("", 0);
        for (String text : new String[] {"(", "!", "-", "(w", "((w)", "w+", "w-", "w*", "w/", "w%", "w<", "w=", "w>", "w|",
            "w&", "w?", "w;", "w?k;", "(w<", "((((((", "!!!!!!", "1?(2"}) {
            fault(text, text.length());
        }
        fault("(" + "1+".repeat(59) + "1", 120);
        fault("1+".repeat(60), 120);
        fault("1;".repeat(60), 120);
        fault("0?1;".repeat(30), 120);
    }

    private void heeds() {
        e.at(8, "BAD", this::heedBad);
    }

    private void heedBad() {
        WhatWasSaid x = new WhatWasSaid();
        e.due("neither is there", x.heed(0, 0), -1);
        Check.write(x, "5", 0, 0);
        e.due("no sayings", x.heed(0, 0), -1);
        x.saying(0, 1);
        e.due("both are there", x.heed(0, 0), 5);
        for (int i : new int[] {MIN_VALUE, -1, 1, 3, 4, MAX_VALUE}) {
            e.due("writer " + i, x.heed(i, 0), -1);
        }
        for (int i : new int[] {MIN_VALUE, -1, 1, 15, 16, MAX_VALUE}) {
            e.due("saying " + i, x.heed(0, i), -1);
        }
    }
}
