import java.util.Random;
import java.util.regex.Matcher;
import java.util.regex.Pattern;

/**
 * Promise 7: FAULT by the words that define it, "the place of the first byte with which no TEXT goes on": each beginning
 * of a text is tried with all that could close it, and what is whole is seen by writing it down to a single letter.
 */
public final class FaultTest {
    private static final Check check = new Check();
    private static final int MOST_ON_ONE = 380;
    private static final int LONGEST_TAPE = 120;
    private static final int MADE = 4000;
    /** An operand is written A to G, by how many of ( ! - were open at once in it: 0 to 6. */
    private static final char DEEPEST = 'G';
    private static final Pattern OPENED = Pattern.compile("(?<![A-G)])[-!]([A-G])");
    private static final Pattern PRODUCT = Pattern.compile("([A-G])[*/%]([A-G])");
    private static final Pattern SUM = Pattern.compile("([A-G])[-+]([A-G])");
    private static final String EITHER = "[A-G]([<=>][A-G])?([&|][A-G]([<=>][A-G])?)*";
    private static final Pattern CLOSED = Pattern.compile("\\((" + EITHER + ")\\)");

    private WhatWasSaid x;
    private int calls = MOST_ON_ONE;

    public static void main(String[] args) {
        FaultTest test = new FaultTest();
        test.texts("", "3w(!-+/<|&;?)x", 4);
        test.texts("", "(!w)", 8);
        test.texts("", "w-(", 8);
        test.texts("", "0 9", 6);
        test.madeTexts(new Random(13));
        check.end();
    }

    private void texts(String text, String signs, int longest) {
        boolean goesOn = goesOn(text);
        hold(text, goesOn ? faultOfWhole(text) : text.length() - 1);
        for (int i = 0; goesOn && i < signs.length() && text.length() < longest; i++) {
            texts(text + signs.charAt(i), signs, longest);
        }
    }

    /** Texts by the rules, and the same with a byte changed, left out or put in. */
    private void madeTexts(Random random) {
        String signs = "wkolimsn0123456789()!-+*/%<=>&|?;W A~";
        for (int i = 0; i < MADE; i++) {
            StringBuilder text = new StringBuilder(TextMaker.text(random));
            int place = random.nextInt(text.length());
            int change = random.nextInt(4);
            if (change == 1) {
                text.deleteCharAt(place);
            } else if (change == 2) {
                text.insert(place, signs.charAt(random.nextInt(signs.length())));
            } else if (change == 3) {
                text.setCharAt(place, signs.charAt(random.nextInt(signs.length())));
            }
            if (text.length() <= LONGEST_TAPE) {
                hold(text.toString(), faultOf(text.toString()));
            }
        }
    }

    private static int faultOf(String text) {
        for (int length = 1; length <= text.length(); length++) {
            if (!goesOn(text.substring(0, length))) {
                return length - 1;
            }
        }
        return faultOfWhole(text);
    }

    private static int faultOfWhole(String text) {
        return isWhole(text) ? -1 : text.length();
    }

    private void hold(String text, int fault) {
        if (calls + text.length() >= MOST_ON_ONE || x.count(1) == 4) {
            x = new WhatWasSaid();
            calls = 0;
        }
        int want = fault < 0 ? x.count(1) : -100 - fault;
        check.due("writer of \"" + text + "\"", Check.write(x, text, 0, 0), want);
        calls += text.length() + 3;
    }

    /** Whether any TEXT begins so: if one does, an operand and some brackets at most make it whole. */
    private static boolean goesOn(String text) {
        String closed = text;
        for (int brackets = 0; brackets <= 6; brackets++) {
            if (isWhole(closed) || isWhole(text + "w" + closed.substring(text.length()))) {
                return true;
            }
            closed += ")";
        }
        return false;
    }

    private static boolean isWhole(String text) {
        for (String line : text.split(";", -1)) {
            String[] parts = line.split("\\?", -1);
            if (parts.length > 2 || !isExpression(parts[0]) || !isExpression(parts[parts.length - 1])) {
                return false;
            }
        }
        return true;
    }

    private static boolean isExpression(String text) {
        if (Pattern.compile("[A-Z]|\\d{5}").matcher(text).find()) {
            return false;
        }
        String left = text.replaceAll("\\d+|[wkolimsn]", "A");
        for (String before = ""; !left.equals(before); ) {
            before = left;
            left = writtenDown(left);
        }
        return left.matches(EITHER);
    }

    /** One step: brackets, ! and - ahead of what is written down already come before what stands between two. */
    private static String writtenDown(String text) {
        Matcher opened = OPENED.matcher(text);
        if (opened.find()) {
            return replaced(text, opened, deeper(opened.group(1)));
        }
        for (Pattern joint : new Pattern[] {PRODUCT, SUM}) {
            Matcher found = joint.matcher(text);
            if (found.find()) {
                return replaced(text, found, deepest(found.group()));
            }
        }
        Matcher closed = CLOSED.matcher(text);
        return closed.find() ? replaced(text, closed, deeper(closed.group(1))) : text;
    }

    private static String replaced(String text, Matcher found, char operand) {
        return text.substring(0, found.start()) + operand + text.substring(found.end());
    }

    private static char deepest(String text) {
        return (char) text.chars().filter(c -> c >= 'A' && c <= DEEPEST + 1).max().orElse('A');
    }

    /** What is one deeper than the deepest is written H, which no rule takes. */
    private static char deeper(String text) {
        return (char) (deepest(text) + 1);
    }
}
