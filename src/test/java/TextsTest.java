/** Each text of up to five signs of fourteen: whether it makes a writer, its fault, its heed, as the Model tells them. */
public final class TextsTest {
    private static final Check check = new Check();
    private static final String SIGNS = "3w(!-+/<|&;?)x";
    private static final int LONGEST = 5;
    private static final int MOST_ON_ONE = 400;

    private WhatWasSaid x;
    private Model m;
    private int calls = MOST_ON_ONE;

    public static void main(String[] args) {
        new TextsTest().texts("");
        check.end();
    }

    private void texts(String text) {
        hold(text);
        for (int i = 0; i < SIGNS.length() && text.length() < LONGEST; i++) {
            texts(text + SIGNS.charAt(i));
        }
    }

    private void hold(String text) {
        if (calls >= MOST_ON_ONE || m.count(1) == 4) {
            x = Edges.said(10, 101, 53, 730);
            m = new Model();
            m.saying(10, 101);
            m.saying(53, 730);
            calls = 2;
        }
        for (int i = 0; i < text.length(); i++) {
            x.feed(text.charAt(i));
            m.feed(text.charAt(i));
        }
        int want = m.writer(0, 0);
        check.due(text, x.writer(0, 0), want);
        calls += text.length() + 1;
        for (int saying = 0; saying < 2 && want >= 0; saying++) {
            check.due(text, x.heed(want, saying), m.heed(want, saying));
            calls++;
        }
    }
}
