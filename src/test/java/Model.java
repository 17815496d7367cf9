import java.math.BigInteger;
import java.util.ArrayDeque;
import java.util.ArrayList;
import java.util.Deque;
import java.util.List;
import java.util.TreeSet;

/** The document once more, told in another way, with the Java library: what the program is held against. */
final class Model {
    static final int BAD = -1, NOT = -2, FULL = -3, STATE = -5, VOID = -2000000000;

    static final class Entry {
        int saying;
        int sort;
        int length;
        boolean added;
    }

    static final class Paper {
        int writer;
        List<Entry> entries = new ArrayList<>();

        List<Integer> row() {
            List<Integer> row = new ArrayList<>();
            for (Entry entry : entries) {
                row.add(entry.saying);
            }
            return row;
        }
    }

    static final class Writer {
        String text;
        int self;
        int habits;
    }

    interface Says {
        default int says(int x) {
            ran(1);
            return x + number();
        }

        int number();

        void ran(int body);
    }

    static class Told implements Says {
        int number;
        List<Integer> trace;

        public int number() {
            return number;
        }

        public void ran(int body) {
            trace.add(body);
        }

        int takes(int x) {
            ran(10);
            return says(x) * 2;
        }

        int mends(int x) {
            ran(11);
            return x ^ number;
        }

        int joins(int x) {
            ran(2);
            return takes(x) - mends(1);
        }
    }

    static class Taken extends Told {
        public int says(int x) {
            ran(20);
            return super.says(x) + 3;
        }
    }

    static class Softened extends Taken {
        int takes(int x) {
            ran(30);
            return -super.takes(x);
        }
    }

    static class Joined extends Taken {
        int mends(int x) {
            ran(40);
            return super.mends(x) * 3;
        }

        int takes(int x) {
            ran(41);
            return super.takes(x + 1);
        }
    }

    static class Moved extends Told {
        int joins(int x) {
            ran(50);
            return super.joins(x) ^ 5;
        }
    }

    static class Own extends Joined {
        int mends(int x) {
            ran(60);
            return super.mends(x) - says(2);
        }

        int joins(int x) {
            ran(61);
            return super.joins(x) + 1;
        }
    }

    static class Added extends Told {
        public int says(int x) {
            ran(70);
            return super.says(x) * 2;
        }
    }

    static class Lacking extends Softened {
        int takes(int x) {
            ran(80);
            return super.takes(x) + mends(2);
        }

        int joins(int x) {
            ran(81);
            return super.joins(x) - 1;
        }
    }

    private static final Class<?>[] KINDS = {Told.class, Taken.class, Softened.class, Joined.class, Moved.class,
        Own.class, Added.class, Lacking.class};

    private final List<int[]> sayings = new ArrayList<>();
    private final List<Writer> writers = new ArrayList<>();
    private final List<Paper> papers = new ArrayList<>();
    private final StringBuilder tape = new StringBuilder();
    private final Deque<int[]> done = new ArrayDeque<>();
    private final Deque<int[]> undone = new ArrayDeque<>();
    private final List<Told> bodies = new ArrayList<>();
    private final List<Integer> trace = new ArrayList<>();
    private final Object[] shelves = new Object[6];

    private static boolean in(int v, int least, int greatest) {
        return v >= least && v <= greatest;
    }

    private static boolean fits(int what, int v) {
        return what == 0 ? in(v, 0, 10) : what == 1 ? in(v, 0, 3) : what == 2 ? in(v, 0, 7) : what == 3 && in(v, 1, 30);
    }

    private boolean isSaying(int i) {
        return in(i, 0, sayings.size() - 1);
    }

    private boolean isWriter(int i) {
        return in(i, 0, writers.size() - 1);
    }

    private Paper paper(int i) {
        return in(i, 0, papers.size() - 1) ? papers.get(i) : null;
    }

    private int come(int who, int sort, int on, int length) {
        if (!fits(0, who) || !fits(1, sort) || !fits(2, on) || !fits(3, length)) {
            return BAD;
        }
        if (sayings.size() == 16) {
            return FULL;
        }
        sayings.add(new int[] {who, sort, on, length});
        return sayings.size() - 1;
    }

    int saying(int ws, int ol) {
        return ws < 0 || ol < 0 ? BAD : come(ws / 10, ws % 10, ol / 100, ol % 100);
    }

    int sayings(int shelf, int i, int n) {
        if (!in(shelf, 0, 5) || !in(n, 1, 15)) {
            return BAD;
        }
        if (shelves[shelf] != null && !(shelves[shelf] instanceof byte[])) {
            return -12;
        }
        int came = 0;
        try {
            byte[] row = (byte[]) shelves[shelf];
            for (long at = i; came < n; at += 4) {
                int p = Math.toIntExact(at);
                if (come(row[p], row[p + 1], row[p + 2], row[p + 3]) < 0) {
                    break;
                }
                came++;
            }
        } catch (NullPointerException | IndexOutOfBoundsException | ArithmeticException e) {
            return came;
        }
        return came;
    }

    int mend(int saying, int what, int v) {
        if (!isSaying(saying) || !fits(what, v)) {
            return BAD;
        }
        int was = sayings.get(saying)[what];
        if (was != v) {
            sayings.get(saying)[what] = v;
            done.addLast(new int[] {saying, what, was, v});
            undone.clear();
            if (done.size() > 40) {
                done.removeFirst();
            }
        }
        return was;
    }

    int of(int saying, int what) {
        if (!isSaying(saying) || !in(what, 0, 4)) {
            return BAD;
        }
        return what < 4 ? sayings.get(saying)[what] : sayings.subList(0, saying).stream().mapToInt(s -> s[3]).sum();
    }

    int feed(int letter) {
        if (!in(letter, 0, 255)) {
            return BAD;
        }
        if (tape.length() == 120) {
            return FULL;
        }
        tape.append((char) letter);
        return tape.length();
    }

    int writer(int me, int habits) {
        if (!in(me, 0, 10) || !in(habits, 0, 7)) {
            return BAD;
        }
        if (writers.size() == 4) {
            return FULL;
        }
        String text = tape.toString();
        tape.setLength(0);
        int fault = fault(text);
        if (fault >= 0) {
            return -100 - fault;
        }
        Writer writer = new Writer();
        writer.text = text;
        writer.self = me;
        writer.habits = habits;
        writers.add(writer);
        return writers.size() - 1;
    }

    /** Byte by byte, with the signs that are open: which bytes may come next. */
    static int fault(String text) {
        Deque<Character> open = new ArrayDeque<>();
        Deque<Boolean> compared = new ArrayDeque<>();
        compared.push(false);
        boolean wanted = true;
        boolean asked = false;
        int digits = 0;
        for (int i = 0; i < text.length(); i++) {
            char c = text.charAt(i);
            boolean digit = c >= '0' && c <= '9';
            if (wanted && (digit || "wkolimsn".indexOf(c) >= 0)) {
                digits = digit ? 1 : 9;
                wanted = false;
            } else if (wanted && "(!-".indexOf(c) >= 0 && open.size() < 6) {
                open.push(c);
                if (c == '(') {
                    compared.push(false);
                }
                continue;
            } else if (wanted) {
                return i;
            } else if (digit && digits < 4) {
                digits++;
            } else if ("+-*/%".indexOf(c) >= 0) {
                wanted = true;
            } else if ("<=>".indexOf(c) >= 0 && !compared.peek()) {
                compared.pop();
                compared.push(true);
                wanted = true;
            } else if ("|&".indexOf(c) >= 0) {
                compared.pop();
                compared.push(false);
                wanted = true;
            } else if (c == ')' && compared.size() > 1) {
                compared.pop();
                open.pop();
                digits = 9;
            } else if (c == '?' && compared.size() == 1 && !asked || c == ';' && compared.size() == 1) {
                asked = c == '?';
                compared.pop();
                compared.push(false);
                wanted = true;
            } else {
                return i;
            }
            while (!open.isEmpty() && open.peek() != '(') {
                open.pop();
            }
        }
        return wanted || compared.size() > 1 ? text.length() : -1;
    }

    /** Splits an expression at its last sign of the lowest rank, outside brackets. */
    private int value(String text, Writer writer, int saying) {
        String[] ranks = {"|", "&", "<=>", "+-", "*/%"};
        for (String rank : ranks) {
            int depth = 0;
            for (int i = text.length() - 1; i > 0; i--) {
                char c = text.charAt(i);
                depth += c == ')' ? 1 : c == '(' ? -1 : 0;
                boolean between = "|&<=>+-*/%!(".indexOf(text.charAt(i - 1)) < 0;
                if (depth == 0 && between && rank.indexOf(c) >= 0) {
                    return joint(c, value(text.substring(0, i), writer, saying),
                            value(text.substring(i + 1), writer, saying));
                }
            }
        }
        char first = text.charAt(0);
        if (first == '!') {
            return value(text.substring(1), writer, saying) == 0 ? 1 : 0;
        }
        if (first == '-') {
            return -value(text.substring(1), writer, saying);
        }
        if (first == '(') {
            return value(text.substring(1, text.length() - 1), writer, saying);
        }
        return Character.isDigit(first) ? Integer.parseInt(text) : named(first, writer, saying);
    }

    private int named(char name, Writer writer, int saying) {
        int[] s = sayings.get(saying);
        switch (name) {
            case 'i': return saying;
            case 'm': return of(saying, 4);
            case 's': return s[0] == writer.self ? 1 : 0;
            case 'n': return (int) sayings.subList(0, saying).stream().filter(t -> t[2] == s[2]).count();
            default: return s["wkol".indexOf(name)];
        }
    }

    private static int joint(char sign, int a, int b) {
        BigInteger x = BigInteger.valueOf(a);
        BigInteger y = BigInteger.valueOf(b);
        switch (sign) {
            case '|': return a != 0 | b != 0 ? 1 : 0;
            case '&': return a != 0 & b != 0 ? 1 : 0;
            case '<': return x.compareTo(y) < 0 ? 1 : 0;
            case '=': return x.equals(y) ? 1 : 0;
            case '>': return x.compareTo(y) > 0 ? 1 : 0;
            case '+': return x.add(y).intValue();
            case '-': return x.subtract(y).intValue();
            case '*': return x.multiply(y).intValue();
            case '/': return b == 0 ? 0 : x.divide(y).intValue();
            default: return b == 0 ? 0 : x.remainder(y).intValue();
        }
    }

    int heed(int writer, int saying) {
        if (!isWriter(writer) || !isSaying(saying)) {
            return BAD;
        }
        Writer w = writers.get(writer);
        for (String line : w.text.split(";")) {
            String[] parts = line.split("\\?");
            if (parts.length == 1 || value(parts[0], w, saying) != 0) {
                int value = value(parts[parts.length - 1], w, saying);
                return value < 0 ? 0 : value > 100 ? 100 : value;
            }
        }
        return 0;
    }

    private Entry entry(int saying) {
        Entry entry = new Entry();
        entry.saying = saying;
        entry.sort = sayings.get(saying)[1];
        entry.length = sayings.get(saying)[3];
        return entry;
    }

    private int keepPaper(Paper paper, int writer) {
        paper.writer = writer;
        papers.add(paper);
        return papers.size() - 1;
    }

    int take(int writer, int seed) {
        if (!isWriter(writer)) {
            return BAD;
        }
        if (papers.size() == 10) {
            return FULL;
        }
        Writer w = writers.get(writer);
        List<Entry> row = new ArrayList<>();
        int z = seed;
        for (int saying = 0; saying < sayings.size(); saying++) {
            z = (int) (z * 1103515245L + 12345L);
            if (((z & 0xffffffffL) >> 8) % 100 < heed(writer, saying)) {
                Entry entry = entry(saying);
                entry.length *= sayings.get(saying)[0] == w.self ? 2 : 1;
                row.add(entry);
            }
        }
        if ((w.habits & 1) != 0) {
            while (joinFirst(row)) {
                continue;
            }
        }
        if ((w.habits & 2) != 0) {
            row.stream().filter(e -> e.sort == 2).forEach(e -> e.sort = 0);
        }
        Paper paper = new Paper();
        row.stream().filter(e -> (w.habits & 4) == 0 || e.sort != 3).forEach(paper.entries::add);
        row.stream().filter(e -> (w.habits & 4) != 0 && e.sort == 3).forEach(paper.entries::add);
        return keepPaper(paper, writer);
    }

    private boolean joinFirst(List<Entry> row) {
        for (int i = 0; i + 1 < row.size(); i++) {
            int[] one = sayings.get(row.get(i).saying);
            int[] other = sayings.get(row.get(i + 1).saying);
            if (one[0] == other[0] && one[2] == other[2]) {
                row.get(i).length += row.remove(i + 1).length;
                return true;
            }
        }
        return false;
    }

    int told(int writer, int bits) {
        if (writer != -1 && !isWriter(writer) || bits < 0 || bits >> sayings.size() != 0) {
            return BAD;
        }
        if (papers.size() == 10) {
            return FULL;
        }
        Paper paper = new Paper();
        for (int saying = 0; saying < sayings.size(); saying++) {
            if ((bits >> saying) % 2 == 1) {
                paper.entries.add(entry(saying));
            }
        }
        return keepPaper(paper, writer);
    }

    int add(int paper, int saying, int i) {
        Paper p = paper(paper);
        if (p == null || !isSaying(saying) || p.row().contains(saying) || !in(i, 0, p.entries.size())) {
            return BAD;
        }
        Entry entry = entry(saying);
        entry.added = true;
        p.entries.add(i, entry);
        return p.entries.size();
    }

    int strike(int paper, int i) {
        Paper p = paper(paper);
        if (p == null || !in(i, 0, p.entries.size() - 1)) {
            return BAD;
        }
        p.entries.remove(i);
        return p.entries.size();
    }

    int read(int paper, int who) {
        Paper p = paper(paper);
        if (p == null || !in(who, 0, 10)) {
            return BAD;
        }
        int before = p.entries.size();
        p.entries.removeIf(e -> e.sort == 2 && sayings.get(e.saying)[0] == who);
        for (Entry e : p.entries) {
            if (sayings.get(e.saying)[0] == who) {
                e.length = e.length * 2 > 999 ? 999 : e.length * 2;
            }
        }
        return before - p.entries.size();
    }

    int cut(int paper, int n) {
        Paper p = paper(paper);
        if (p == null || !in(n, 0, 16)) {
            return BAD;
        }
        int fell = 0;
        while (p.entries.size() > n) {
            int least = p.entries.stream().mapToInt(e -> e.length).min().getAsInt();
            int last = p.entries.size() - 1;
            while (p.entries.get(last).length != least) {
                last--;
            }
            p.entries.remove(last);
            fell++;
        }
        return fell;
    }

    int page(int paper, int what) {
        Paper p = paper(paper);
        if (p == null) {
            return VOID;
        }
        if (what == 0) {
            return p.entries.size();
        }
        if (what == 1) {
            return p.writer;
        }
        if (what == 2) {
            return p.entries.stream().mapToInt(e -> 1 << e.saying).sum();
        }
        if (what == 3) {
            return p.entries.stream().mapToInt(e -> e.length).sum();
        }
        if (what < 100 || what / 100 > p.entries.size() || what % 100 > 3) {
            return VOID;
        }
        Entry e = p.entries.get(what / 100 - 1);
        int[] parts = {e.saying, e.sort, e.length, e.added ? 1 : 0};
        return parts[what % 100];
    }

    int led(int paper, int saying) {
        Paper p = paper(paper);
        if (p == null || !isSaying(saying)) {
            return BAD;
        }
        int place = p.row().indexOf(saying);
        return place < 0 ? NOT : place;
    }

    int sure(int saying, int what) {
        if (!isSaying(saying) || !in(what, 0, 1)) {
            return BAD;
        }
        int with = 0;
        TreeSet<Integer> by = new TreeSet<>();
        for (Paper p : papers) {
            if (p.row().contains(saying)) {
                with++;
                if (p.writer >= 0) {
                    by.add(p.writer);
                }
            }
        }
        return what == 0 ? with : by.size();
    }

    int only() {
        int bits = 0;
        for (int saying = 0; saying < sayings.size(); saying++) {
            bits += sure(saying, 0) == 1 ? 1 << saying : 0;
        }
        return bits;
    }

    int fight(int pq, int what) {
        Paper p = pq < 0 ? null : paper(pq / 10);
        Paper q = pq < 0 ? null : paper(pq % 10);
        if (p == null || q == null || p == q || !in(what, 0, 1)) {
            return BAD;
        }
        List<Integer> one = p.row();
        List<Integer> other = q.row();
        one.retainAll(q.row());
        other.retainAll(p.row());
        TreeSet<Integer> pairs = new TreeSet<>();
        for (int a : one) {
            for (int b : one) {
                if (a < b && (one.indexOf(a) - one.indexOf(b)) * (other.indexOf(a) - other.indexOf(b)) < 0) {
                    pairs.add(100 * a + b);
                }
            }
        }
        return what == 0 ? pairs.size() : pairs.isEmpty() ? NOT : pairs.first();
    }

    int order(int i) {
        TreeSet<Integer> left = new TreeSet<>();
        papers.forEach(p -> left.addAll(p.row()));
        List<Integer> order = new ArrayList<>();
        while (!left.isEmpty()) {
            int best = left.first();
            for (int a : left) {
                best = beaten(a, left) > beaten(best, left) ? a : best;
            }
            left.remove(best);
            order.add(best);
        }
        return in(i, 0, order.size() - 1) ? order.get(i) : BAD;
    }

    private int beaten(int a, TreeSet<Integer> left) {
        int beaten = 0;
        for (int b : left) {
            int ahead = 0;
            for (Paper p : papers) {
                List<Integer> row = p.row();
                if (a != b && row.contains(a) && row.contains(b)) {
                    ahead += row.indexOf(a) < row.indexOf(b) ? 1 : -1;
                }
            }
            beaten += ahead > 0 ? 1 : 0;
        }
        return beaten;
    }

    long said(int saying, int prior, int part) {
        if (!isSaying(saying) || !in(prior, 1, 99) || !in(part, 0, 1)) {
            return Long.MIN_VALUE;
        }
        BigInteger yes = BigInteger.valueOf(prior);
        BigInteger no = BigInteger.valueOf(100 - prior);
        List<Paper> written = new ArrayList<>(papers);
        written.removeIf(p -> p.writer < 0);
        for (Paper p : written.subList(0, Math.min(7, written.size()))) {
            boolean has = p.row().contains(saying);
            int heed = heed(p.writer, saying);
            yes = yes.multiply(BigInteger.valueOf(has ? heed : 100 - heed));
            no = no.multiply(BigInteger.valueOf(has ? 0 : 100));
        }
        BigInteger below = yes.add(no);
        if (below.signum() == 0) {
            return part;
        }
        return (part == 0 ? yes : below).divide(yes.gcd(below)).longValueExact();
    }

    int whose(int paper) {
        Paper p = paper(paper);
        if (p == null) {
            return BAD;
        }
        if (writers.isEmpty()) {
            return STATE;
        }
        int best = NOT;
        BigInteger most = BigInteger.ZERO;
        for (int w = 0; w < writers.size(); w++) {
            BigInteger chance = BigInteger.TEN.pow(9);
            for (int s = 0; s < sayings.size(); s++) {
                int heed = p.row().contains(s) ? heed(w, s) : 100 - heed(w, s);
                chance = chance.multiply(BigInteger.valueOf(heed)).divide(BigInteger.valueOf(100));
            }
            if (chance.compareTo(most) > 0) {
                most = chance;
                best = w;
            }
        }
        return best;
    }

    int learnt(int bits, int what) {
        if (bits < 1 || bits >> papers.size() != 0 || !in(what, 0, 1)) {
            return BAD;
        }
        if (writers.isEmpty()) {
            return STATE;
        }
        int best = -1;
        int least = Integer.MAX_VALUE;
        for (int w = 0; w < writers.size(); w++) {
            int off = 0;
            for (int s = 0; s < sayings.size(); s++) {
                int one = 0;
                for (int p = 0; p < papers.size(); p++) {
                    if ((bits & 1 << p) != 0) {
                        one += heed(w, s) - (papers.get(p).row().contains(s) ? 100 : 0);
                    }
                }
                off += one < 0 ? -one : one;
            }
            if (off < least) {
                least = off;
                best = w;
            }
        }
        return what == 0 ? best : least;
    }

    int asleep(int paper, int what) {
        Paper p = paper(paper);
        if (p == null || !in(what, 0, 1)) {
            return BAD;
        }
        int minute = 0;
        int begin = 0;
        int bestBegin = 0;
        int bestSpan = 0;
        for (int s = 0; s < sayings.size(); s++) {
            minute += sayings.get(s)[3];
            if (p.row().contains(s)) {
                begin = minute;
            } else if (minute - begin > bestSpan) {
                bestSpan = minute - begin;
                bestBegin = begin;
            }
        }
        return what == 0 ? bestBegin : bestSpan;
    }

    int ask(int what) {
        if (!in(what, 0, 1)) {
            return BAD;
        }
        if (writers.size() < 2) {
            return STATE;
        }
        int best = 0;
        int most = -1;
        for (int one = writers.size() - 2; one >= 0; one--) {
            for (int other = writers.size() - 1; other > one; other--) {
                int sum = 0;
                for (int s = 0; s < sayings.size(); s++) {
                    sum += 100 * heed(one, s) + 100 * heed(other, s) - heed(one, s) * heed(other, s);
                }
                if (sum >= most) {
                    most = sum;
                    best = 10 * one + other;
                }
            }
        }
        return what == 0 ? best : most;
    }

    int years(int writer, int years) {
        if (!isWriter(writer) || !in(years, 0, 99)) {
            return BAD;
        }
        int left = 0;
        for (int s = 0; s < sayings.size(); s++) {
            left += heed(writer, s) * (100 - years) / 100;
        }
        return left;
    }

    int undo() {
        if (done.isEmpty()) {
            return STATE;
        }
        int[] change = done.removeLast();
        sayings.get(change[0])[change[1]] = change[2];
        undone.addLast(change);
        return done.size();
    }

    int redo() {
        if (undone.isEmpty()) {
            return STATE;
        }
        int[] change = undone.removeLast();
        sayings.get(change[0])[change[1]] = change[3];
        done.addLast(change);
        return undone.size();
    }

    int body(int kind) {
        if (!in(kind, 0, 7)) {
            return BAD;
        }
        if (bodies.size() == 50) {
            return FULL;
        }
        Told[] fresh = {new Told(), new Taken(), new Softened(), new Joined(), new Moved(), new Own(), new Added(),
            new Lacking()};
        fresh[kind].number = bodies.size();
        fresh[kind].trace = trace;
        bodies.add(fresh[kind]);
        return bodies.size() - 1;
    }

    int act(int body, int act, int x) {
        trace.clear();
        if (!in(body, 0, bodies.size() - 1) || !in(act, 0, 3)) {
            return 0;
        }
        Told b = bodies.get(body);
        return act == 0 ? b.says(x) : act == 1 ? b.takes(x) : act == 2 ? b.mends(x) : b.joins(x);
    }

    int trace(int i) {
        return in(i, 0, Math.min(24, trace.size()) - 1) ? trace.get(i) : BAD;
    }

    int keep(int shelf, int body) {
        if (!in(shelf, 0, 5) || !in(body, -1, bodies.size() - 1)) {
            return BAD;
        }
        shelves[shelf] = body < 0 ? null : bodies.get(body);
        return 1;
    }

    int row(int shelf, int sort, int n) {
        if (!in(shelf, 0, 5) || !in(sort, 0, 4) || n > 60) {
            return BAD;
        }
        if (n < 0) {
            return -14;
        }
        shelves[shelf] = sort == 0 ? new byte[n] : sort == 1 ? new short[n] : sort == 2 ? new int[n]
                : sort == 3 ? new long[n] : new boolean[n];
        return 1;
    }

    int put(int shelf, int i, long v) {
        if (!in(shelf, 0, 5)) {
            return BAD;
        }
        Object row = shelves[shelf];
        if (row == null) {
            return -11;
        }
        if (row instanceof Told) {
            return -12;
        }
        try {
            if (row instanceof byte[]) {
                ((byte[]) row)[i] = (byte) v;
            } else if (row instanceof short[]) {
                ((short[]) row)[i] = (short) v;
            } else if (row instanceof int[]) {
                ((int[]) row)[i] = (int) v;
            } else if (row instanceof long[]) {
                ((long[]) row)[i] = v;
            } else {
                ((boolean[]) row)[i] = v != 0;
            }
        } catch (ArrayIndexOutOfBoundsException e) {
            return -13;
        }
        return 1;
    }

    long element(int shelf, int i) {
        if (!in(shelf, 0, 5) || shelves[shelf] == null || shelves[shelf] instanceof Told) {
            return Long.MIN_VALUE;
        }
        Object row = shelves[shelf];
        if (!in(i, 0, java.lang.reflect.Array.getLength(row) - 1)) {
            return Long.MIN_VALUE;
        }
        return row instanceof boolean[] ? ((boolean[]) row)[i] ? 1 : 0 : java.lang.reflect.Array.getLong(row, i);
    }

    @SuppressWarnings("SuspiciousSystemArraycopy")
    int shift(int shelf, int i, int other, int j, int n) {
        if (!in(shelf, 0, 5) || !in(other, 0, 5)) {
            return BAD;
        }
        try {
            System.arraycopy(shelves[shelf], i, shelves[other], j, n);
        } catch (NullPointerException e) {
            return -11;
        } catch (ArrayStoreException e) {
            return -12;
        } catch (IndexOutOfBoundsException e) {
            return -13;
        }
        return n;
    }

    int taken(int shelf, int k) {
        if (!in(shelf, 0, 5) || !in(k, 0, 7)) {
            return BAD;
        }
        if (shelves[shelf] == null) {
            return -11;
        }
        if (!KINDS[k].isInstance(shelves[shelf])) {
            return -12;
        }
        return java.util.Arrays.asList(KINDS).indexOf(shelves[shelf].getClass());
    }

    int count(int what) {
        int[] counts = {sayings.size(), writers.size(), papers.size(), tape.length(), done.size(), bodies.size(),
            trace.size()};
        return in(what, 0, 6) ? counts[what] : BAD;
    }
}
