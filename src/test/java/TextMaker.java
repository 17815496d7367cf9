import java.util.Random;

/** Makes texts of heed by the document's rules; some too deep, some too long for the tape. */
final class TextMaker {
    private TextMaker() { }

    static String text(Random random) {
        StringBuilder text = new StringBuilder(line(random));
        while (random.nextInt(3) == 0) {
            text.append(';').append(line(random));
        }
        return text.toString();
    }

    private static String line(Random random) {
        String first = random.nextInt(3) == 0 ? expression(random, 0, 0) + "?" : "";
        return first + expression(random, 0, 0);
    }

    private static String expression(Random random, int rank, int depth) {
        if (rank == 5) {
            return operand(random, depth);
        }
        String[] signs = {"|", "&", "<=>", "+-", "*/%"};
        StringBuilder text = new StringBuilder(expression(random, rank + 1, depth));
        int more = random.nextInt(rank < 3 ? 6 : 3) == 0 ? rank == 2 ? 1 : 1 + random.nextInt(2) : 0;
        for (int i = 0; i < more; i++) {
            text.append(signs[rank].charAt(random.nextInt(signs[rank].length())));
            text.append(expression(random, rank + 1, depth));
        }
        return text.toString();
    }

    private static String operand(Random random, int depth) {
        int dice = random.nextInt(10);
        if (depth > 8 || dice < 3) {
            return Integer.toString(random.nextInt(random.nextInt(5) == 0 ? 10000 : 120));
        }
        if (dice < 7) {
            return "wkolimsn".substring(random.nextInt(8)).substring(0, 1);
        }
        if (dice == 7) {
            return "!" + operand(random, depth + 1);
        }
        return dice == 8 ? "-" + operand(random, depth + 1) : "(" + expression(random, 0, depth + 1) + ")";
    }
}
