import java.io.IOException;
import java.nio.file.Files;
import java.nio.file.Path;
import java.util.regex.Matcher;
import java.util.regex.Pattern;

/**
 * Tests of the document's boundary cases, each under the document's own words. The words are struck out of the
 * document as they are tested, so that what no test stands for is left over and can be seen.
 */
final class Edges {
    static final int TERMS = 0;
    static final int[] FAR_OFF = {Integer.MIN_VALUE, Integer.MIN_VALUE + 1, Integer.MAX_VALUE - 1, Integer.MAX_VALUE};
    private static final int PROMISES = 38;
    /** Words by which the document names a range, an end, a tie, something that lacks, or a refusal. */
    private static final Pattern BOUNDARY = Pattern.compile("\\b(BAD|NOT|FULL|STATE|VOID|MIN_VALUE)\\b|-1[1-4]\\b"
            + "|\\d+ \\.\\. \\d+|at most|\\bnone\\b|\\(cut|missing|wrap|too early|like ones|nobody|nothing|\\bends\\b"
            + "|at first|by 0|if that is 0|or more|fewer than|is below|lowest|\\bempty\\b|for at most|as long as");

    final Check check = new Check();
    private final String[] left = new String[PROMISES + 1];
    private int tested = 0;

    Edges() throws IOException {
        String text = Files.readString(Path.of("../shared/DOC.md")).replaceAll("\\s+", " ");
        text = text.substring(0, text.indexOf("## Not promised"));
        for (int promise = PROMISES; promise > TERMS; promise--) {
            int from = text.indexOf("## Promise " + promise + ":");
            left[promise] = text.substring(from);
            text = text.substring(0, from);
        }
        left[TERMS] = text;
    }

    /** A test of what a promise (or the terms) says in these words. */
    void at(int promise, String words, Runnable test) {
        check.under("promise " + promise + ", \"" + words + "\": ");
        int from = left[promise].indexOf(words);
        check.holds("the document says so", from >= 0);
        if (from >= 0) {
            left[promise] = left[promise].substring(0, from) + "#" + left[promise].substring(from + words.length());
        }
        int before = check.asked();
        test.run();
        check.holds("it is tested", check.asked() > before);
        tested++;
    }

    void due(String call, long got, long want) {
        check.due(call, got, want);
    }

    /** Looks for words of a boundary case that no test stands for, and ends the run. */
    void end() {
        check.under("");
        for (int promise = TERMS; promise <= PROMISES; promise++) {
            check.holds("promise " + promise + " has a test", left[promise].contains("#"));
            Matcher found = BOUNDARY.matcher(left[promise]);
            while (found.find()) {
                int from = Math.max(0, found.start() - 40);
                int to = Math.min(left[promise].length(), found.end() + 40);
                check.holds("promise " + promise + " has a test for " + left[promise].substring(from, to), false);
            }
        }
        System.out.println(tested + " sentences, each with a test of its own");
        check.end();
    }

    /** A new object with n sayings by 0, each on another thing than the one ahead, as long as its number and 1. */
    static WhatWasSaid meeting(int n) {
        WhatWasSaid x = new WhatWasSaid();
        for (int i = 0; i < n; i++) {
            x.saying(0, 100 * (i % 8) + 1 + i);
        }
        return x;
    }

    /** A new object with these sayings: 10 times who and the sort, 100 times on and long, in turns. */
    static WhatWasSaid said(int... row) {
        WhatWasSaid x = new WhatWasSaid();
        for (int i = 0; i + 1 < row.length; i += 2) {
            x.saying(row[i], row[i + 1]);
        }
        return x;
    }

    /** Makes a shelf a row of a sort with these elements. */
    static void fill(WhatWasSaid x, int shelf, int sort, long... values) {
        x.row(shelf, sort, values.length);
        for (int i = 0; i < values.length; i++) {
            x.put(shelf, i, values[i]);
        }
    }
}
