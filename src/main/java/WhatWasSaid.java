/** What was said at a meeting, who took it down, and what the papers tell of it years after. */
public final class WhatWasSaid {
    public static final int BAD = -1, NOT = -2, FULL = -3, STATE = -5, VOID = -2000000000;

    private static final int MISSING = -11;
    private static final int UNLIKE = -12;
    private static final int NO_PLACE = -13;
    private static final int BELOW_ZERO = -14;

    private static final int WHO = 0;
    private static final int SORT = 1;
    private static final int ON = 2;
    private static final int LONG = 3;
    private static final int MINUTE = 4;

    private static final int NOBODY = -1;
    private static final int MOST_WHO = 10;
    private static final int MOST_HABITS = 7;
    private static final int FAULT_BASE = -100;
    private static final int SHELVES = 6;
    private static final int MOST_FROM_ROW = 15;
    private static final int MOST_YEARS = 99;
    private static final int MOST_PRIOR = 99;

    private final Meeting meeting;
    private final Changes changes;
    private final Tape tape;
    private final Desk desk;
    private final Archive archive;
    private final Acts acts;
    private final Shelf[] shelves;

    public WhatWasSaid() {
        meeting = new Meeting();
        changes = new Changes();
        tape = new Tape();
        desk = new Desk(meeting);
        archive = new Archive(meeting);
        acts = new Acts();
        shelves = new Shelf[SHELVES];
        for (int i = 0; i < SHELVES; i++) {
            shelves[i] = new Shelf();
        }
    }

    // ---- sayings, writers.

    public int saying(int ws, int ol) {
        if (ws < 0 || ol < 0) {
            return BAD;
        }
        return meeting.append(ws / 10, ws % 10, ol / 100, ol % 100);
    }

    public int sayings(int shelf, int i, int n) {
        if (!isShelf(shelf) || n < 1 || n > MOST_FROM_ROW) {
            return BAD;
        }
        Shelf from = shelves[shelf];
        if (from.isBare()) {
            return 0;
        }
        if (!from.holdsBytes()) {
            return UNLIKE;
        }
        for (int came = 0; came < n; came++) {
            if (!comesFrom(from, i + 4L * came)) {
                return came;
            }
        }
        return n;
    }

    public int mend(int saying, int what, int v) {
        if (!meeting.has(saying) || !Meeting.fits(what, v)) {
            return BAD;
        }
        int before = meeting.part(saying, what);
        if (before != v) {
            meeting.change(saying, what, v);
            changes.note(saying, what, before, v);
        }
        return before;
    }

    public int of(int saying, int what) {
        if (!meeting.has(saying) || what < WHO || what > MINUTE) {
            return BAD;
        }
        return what == MINUTE ? meeting.minute(saying) : meeting.part(saying, what);
    }

    public int feed(int letter) {
        if (letter < 0 || letter > 255) {
            return BAD;
        }
        return tape.append(letter) ? tape.length() : FULL;
    }

    public int writer(int me, int habits) {
        if (me < 0 || me > MOST_WHO || habits < 0 || habits > MOST_HABITS) {
            return BAD;
        }
        if (desk.isFull()) {
            return FULL;
        }
        int fault = tape.parse();
        int answer = fault >= 0 ? FAULT_BASE - fault : desk.admit(tape, me, habits);
        tape.clear();
        return answer;
    }

    public int heed(int writer, int saying) {
        if (!desk.has(writer) || !meeting.has(saying)) {
            return BAD;
        }
        return desk.heedOf(writer, saying);
    }

    // ---- papers.

    public int take(int writer, int seed) {
        if (!desk.has(writer)) {
            return BAD;
        }
        int number = archive.open(writer);
        Paper paper = archive.paper(number);
        if (paper == null) {
            return FULL;
        }
        desk.takeDown(writer, seed, paper);
        return number;
    }

    public int told(int writer, int bits) {
        if ((writer != NOBODY && !desk.has(writer)) || bits < 0 || bits >= 1 << meeting.size()) {
            return BAD;
        }
        int number = archive.open(writer);
        Paper paper = archive.paper(number);
        if (paper == null) {
            return FULL;
        }
        for (int saying = 0; saying < meeting.size(); saying++) {
            if ((bits >> saying & 1) != 0) {
                paper.append(saying, meeting.part(saying, SORT), meeting.part(saying, LONG));
            }
        }
        return number;
    }

    public int add(int paper, int saying, int i) {
        Paper to = archive.paper(paper);
        if (to == null || !meeting.has(saying) || to.placeOf(saying) >= 0 || i < 0 || i > to.size()) {
            return BAD;
        }
        if (!to.append(saying, meeting.part(saying, SORT), meeting.part(saying, LONG))) {
            return FULL;
        }
        to.markAdded(to.size() - 1);
        to.move(to.size() - 1, i);
        return to.size();
    }

    public int strike(int paper, int i) {
        Paper from = archive.paper(paper);
        if (from == null || !from.hasPlace(i)) {
            return BAD;
        }
        from.drop(i);
        return from.size();
    }

    public int read(int paper, int who) {
        Paper from = archive.paper(paper);
        if (from == null || who < 0 || who > MOST_WHO) {
            return BAD;
        }
        return from.hear(meeting, who);
    }

    public int cut(int paper, int n) {
        Paper from = archive.paper(paper);
        if (from == null || n < 0 || n > Meeting.MOST) {
            return BAD;
        }
        return from.shorten(n);
    }

    public int page(int paper, int what) {
        Paper from = archive.paper(paper);
        if (from == null || what < 0) {
            return VOID;
        }
        if (what >= 100) {
            int place = what / 100 - 1;
            int part = what % 100;
            return from.hasPlace(place) && part < Paper.PARTS ? from.part(place, part) : VOID;
        }
        switch (what) {
            case 0: return from.size();
            case 1: return from.by();
            case 2: return from.bits();
            case 3: return from.total();
            default: return VOID;
        }
    }

    public int led(int paper, int saying) {
        Paper from = archive.paper(paper);
        if (from == null || !meeting.has(saying)) {
            return BAD;
        }
        int place = from.placeOf(saying);
        return place < 0 ? NOT : place;
    }

    // ---- years after.

    public int sure(int saying, int what) {
        if (!meeting.has(saying) || !isChoice(what)) {
            return BAD;
        }
        return what == 0 ? archive.papersWith(saying) : archive.writersWith(saying);
    }

    public int only() {
        return archive.onlyOnce();
    }

    public int fight(int pq, int what) {
        if (pq < 0 || pq / 10 == pq % 10 || !isChoice(what)) {
            return BAD;
        }
        Paper one = archive.paper(pq / 10);
        Paper other = archive.paper(pq % 10);
        if (one == null || other == null) {
            return BAD;
        }
        return what == 0 ? archive.fightsOf(one, other) : archive.firstFight(one, other);
    }

    public int order(int i) {
        if (i < 0 || i >= Meeting.MOST) {
            return BAD;
        }
        return archive.inOrder(i);
    }

    public long said(int saying, int prior, int part) {
        if (!meeting.has(saying) || prior < 1 || prior > MOST_PRIOR || !isChoice(part)) {
            return Long.MIN_VALUE;
        }
        long above = prior * archive.chanceIfSaid(saying, desk);
        long below = above + (100 - prior) * archive.chanceIfNot(saying);
        long common = commonDivisor(above, below);
        // 0 by 1 stands for 0 by 0 as well, and then the part's number is the part.
        if (above == 0 || common == 0) {
            return part;
        }
        return part == 0 ? above / common : below / common;
    }

    public int whose(int paper) {
        Paper from = archive.paper(paper);
        if (from == null) {
            return BAD;
        }
        return desk.isEmpty() ? STATE : desk.likeliest(from);
    }

    public int learnt(int papers, int what) {
        if (papers < 1 || papers >= 1 << archive.size() || !isChoice(what)) {
            return BAD;
        }
        if (desk.isEmpty()) {
            return STATE;
        }
        int writer = desk.leastOff(papers, archive);
        return what == 0 ? writer : desk.offOf(writer, papers, archive);
    }

    public int asleep(int paper, int what) {
        Paper from = archive.paper(paper);
        if (from == null || !isChoice(what)) {
            return BAD;
        }
        int first = archive.longestGap(from);
        if (first < 0) {
            return 0;
        }
        return what == 0 ? meeting.minute(first) : archive.spanFrom(from, first);
    }

    public int ask(int what) {
        if (!isChoice(what)) {
            return BAD;
        }
        if (desk.size() < 2) {
            return STATE;
        }
        int pair = desk.bestPair();
        return what == 0 ? pair : desk.pairChance(pair / 10, pair % 10);
    }

    public int years(int writer, int years) {
        if (!desk.has(writer) || years < 0 || years > MOST_YEARS) {
            return BAD;
        }
        int left = 0;
        for (int saying = 0; saying < meeting.size(); saying++) {
            left += desk.heedOf(writer, saying) * (100 - years) / 100;
        }
        return left;
    }

    public int undo() {
        return changes.stepBack(meeting) ? changes.done() : STATE;
    }

    public int redo() {
        return changes.stepOn(meeting) ? changes.undone() : STATE;
    }

    // ---- acts, shelves.

    public int body(int kind) {
        if (!Acts.isKind(kind)) {
            return BAD;
        }
        return acts.admit(kind);
    }

    public int act(int body, int act, int x) {
        return acts.begin(body, act, x);
    }

    public int trace(int i) {
        return acts.traced(i);
    }

    public int keep(int shelf, int body) {
        if (!isShelf(shelf) || (body != Shelf.NO_BODY && !acts.has(body))) {
            return BAD;
        }
        shelves[shelf].holdBody(body);
        return 1;
    }

    public int row(int shelf, int sort, int n) {
        if (!isShelf(shelf) || !Shelf.isRowSort(sort) || n > Shelf.MOST) {
            return BAD;
        }
        if (n < 0) {
            return BELOW_ZERO;
        }
        shelves[shelf].holdRow(sort, n);
        return 1;
    }

    public int put(int shelf, int i, long v) {
        int refusal = placeRefusal(shelf, i);
        if (refusal != 0) {
            return refusal;
        }
        shelves[shelf].set(i, v);
        return 1;
    }

    public long element(int shelf, int i) {
        return placeRefusal(shelf, i) != 0 ? Long.MIN_VALUE : shelves[shelf].at(i);
    }

    public int shift(int shelf, int i, int other, int j, int n) {
        if (!isShelf(shelf) || !isShelf(other)) {
            return BAD;
        }
        Shelf from = shelves[shelf];
        Shelf to = shelves[other];
        if (from.isBare() || to.isBare()) {
            return MISSING;
        }
        if (!from.holdsRow() || !to.holdsRow() || from.sort() != to.sort()) {
            return UNLIKE;
        }
        if (!from.hasRange(i, n) || !to.hasRange(j, n)) {
            return NO_PLACE;
        }
        from.copyTo(i, to, j, n);
        return n;
    }

    public int taken(int shelf, int k) {
        if (!isShelf(shelf) || !Acts.isKind(k)) {
            return BAD;
        }
        Shelf from = shelves[shelf];
        if (from.isBare()) {
            return MISSING;
        }
        int kind = from.holdsRow() ? Acts.NO_KIND : acts.kindOf(from.heldBody());
        return Acts.isUnder(kind, k) ? kind : UNLIKE;
    }

    public int count(int what) {
        switch (what) {
            case 0: return meeting.size();
            case 1: return desk.size();
            case 2: return archive.size();
            case 3: return tape.length();
            case 4: return changes.done();
            case 5: return acts.size();
            case 6: return acts.ran();
            default: return BAD;
        }
    }

    private static boolean isShelf(int shelf) {
        return shelf >= 0 && shelf < SHELVES;
    }

    private static boolean isChoice(int what) {
        return what == 0 || what == 1;
    }

    private boolean comesFrom(Shelf from, long place) {
        if (place < 0 || place + 4 > from.length()) {
            return false;
        }
        int i = (int) place;
        int number = meeting.append((int) from.at(i), (int) from.at(i + 1), (int) from.at(i + 2),
                (int) from.at(i + 3));
        return number >= 0;
    }

    private int placeRefusal(int shelf, int i) {
        if (!isShelf(shelf)) {
            return BAD;
        }
        if (shelves[shelf].isBare()) {
            return MISSING;
        }
        if (!shelves[shelf].holdsRow()) {
            return UNLIKE;
        }
        return shelves[shelf].hasRange(i, 1) ? 0 : NO_PLACE;
    }

    private static long commonDivisor(long one, long other) {
        long big = one;
        long small = other;
        // Two longs need some ninety steps at most.
        for (int step = 0; step < 1000 && small != 0; step++) {
            long rest = big % small;
            big = small;
            small = rest;
        }
        return big;
    }

    /** The sayings in the order in which they were said. */
    private static final class Meeting {
        static final int MOST = 16;
        private static final int[] LEAST = {0, 0, 0, 1};
        private static final int[] GREATEST = {10, 3, 7, 30};

        private final int[][] parts = new int[4][MOST];
        private int size;

        static boolean fits(int what, int v) {
            return what >= WHO && what <= LONG && v >= LEAST[what] && v <= GREATEST[what];
        }

        int size() {
            return size;
        }

        boolean has(int saying) {
            return saying >= 0 && saying < size;
        }

        int part(int saying, int what) {
            return saying >= 0 && saying < size && what >= WHO && what <= LONG ? parts[what][saying] : 0;
        }

        int append(int who, int sort, int on, int length) {
            if (!fits(WHO, who) || !fits(SORT, sort) || !fits(ON, on) || !fits(LONG, length)) {
                return BAD;
            }
            if (size >= MOST) {
                return FULL;
            }
            parts[WHO][size] = who;
            parts[SORT][size] = sort;
            parts[ON][size] = on;
            parts[LONG][size] = length;
            size++;
            return size - 1;
        }

        void change(int saying, int what, int v) {
            if (has(saying) && fits(what, v)) {
                parts[what][saying] = v;
            }
        }

        int minute(int saying) {
            int minute = 0;
            for (int ahead = 0; ahead < saying && ahead < size; ahead++) {
                minute += parts[LONG][ahead];
            }
            return minute;
        }

        int aheadOnSame(int saying) {
            int ahead = 0;
            for (int i = 0; i < saying && saying < size; i++) {
                if (parts[ON][i] == parts[ON][saying]) {
                    ahead++;
                }
            }
            return ahead;
        }
    }

    /** The changes of sayings: those that may be undone, and behind them those that may be done again. */
    private static final class Changes {
        private static final int MOST = 40;
        private static final int SAYING = 0;
        private static final int WHAT = 1;
        private static final int BEFORE = 2;
        private static final int AFTER = 3;

        private final int[][] rows = new int[4][MOST];
        private int done;
        private int kept;

        int done() {
            return done;
        }

        int undone() {
            return kept - done;
        }

        void note(int saying, int what, int before, int after) {
            if (done >= MOST) {
                dropFirst();
            }
            rows[SAYING][done] = saying;
            rows[WHAT][done] = what;
            rows[BEFORE][done] = before;
            rows[AFTER][done] = after;
            done++;
            kept = done;
        }

        boolean stepBack(Meeting meeting) {
            if (done <= 0) {
                return false;
            }
            done--;
            meeting.change(rows[SAYING][done], rows[WHAT][done], rows[BEFORE][done]);
            return true;
        }

        boolean stepOn(Meeting meeting) {
            if (done >= kept) {
                return false;
            }
            meeting.change(rows[SAYING][done], rows[WHAT][done], rows[AFTER][done]);
            done++;
            return true;
        }

        private void dropFirst() {
            for (int[] row : rows) {
                System.arraycopy(row, 1, row, 0, MOST - 1);
            }
            done = MOST - 1;
        }
    }

    /** The tape, and the parser that turns its text into codes, each behind what it works on. */
    private static final class Tape {
        static final int MOST = 120;
        /** A byte tells at most one code, and the last line's end is told by none. */
        static final int MOST_CODES = MOST + 1;
        /** Codes from here on are signs; those below are numbers (of at most four digits). */
        static final int SIGN = 10000;
        static final char NEGATE = '~';
        static final int NAMES = 8;
        private static final int MOST_OPEN = 6;
        private static final int MOST_DIGITS = 4;
        private static final int NONE = -1;

        private final int[] bytes = new int[MOST];
        private final int[] codes = new int[MOST_CODES];
        private int length;
        private int codeCount;
        private int at;
        private int fault;

        int length() {
            return length;
        }

        boolean append(int letter) {
            if (length >= MOST) {
                return false;
            }
            bytes[length] = letter;
            length++;
            return true;
        }

        void clear() {
            length = 0;
        }

        int copyCodes(int[] to) {
            int n = Math.min(codeCount, to.length);
            System.arraycopy(codes, 0, to, 0, n);
            return n;
        }

        /** No fault is below 0, as the first place is 0. */
        int parse() {
            at = 0;
            codeCount = 0;
            fault = NONE;
            line();
            for (int more = 0; more < MOST && passes(';'); more++) {
                line();
            }
            if (at < length) {
                fail();
            }
            return fault;
        }

        private void line() {
            either(0);
            if (passes('?')) {
                emit('?');
                either(0);
            }
            emit(';');
        }

        private void either(int open) {
            both(open);
            for (int more = 0; more < MOST && passes('|'); more++) {
                both(open);
                emit('|');
            }
        }

        private void both(int open) {
            compared(open);
            for (int more = 0; more < MOST && passes('&'); more++) {
                compared(open);
                emit('&');
            }
        }

        private void compared(int open) {
            sum(open);
            int sign = passesOneOf('<', '=', '>');
            if (sign >= 0) {
                sum(open);
                emit(sign);
            }
        }

        private void sum(int open) {
            product(open);
            int sign = passesOneOf('+', '-', '-');
            for (int more = 0; more < MOST && sign >= 0; more++) {
                product(open);
                emit(sign);
                sign = passesOneOf('+', '-', '-');
            }
        }

        private void product(int open) {
            operand(open);
            int sign = passesOneOf('*', '/', '%');
            for (int more = 0; more < MOST && sign >= 0; more++) {
                operand(open);
                emit(sign);
                sign = passesOneOf('*', '/', '%');
            }
        }

        private void operand(int open) {
            int sign = sign();
            if (isDigit(sign)) {
                number();
            } else if (nameOf(sign) >= 0) {
                at++;
                emit(sign);
            } else if (open < MOST_OPEN && passes('(')) {
                either(open + 1);
                if (!passes(')')) {
                    fail();
                }
            } else if (open < MOST_OPEN && passes('!')) {
                operand(open + 1);
                emit('!');
            } else if (open < MOST_OPEN && passes('-')) {
                operand(open + 1);
                emit(NEGATE);
            } else {
                fail();
            }
        }

        private void number() {
            int value = 0;
            for (int digits = 0; digits < MOST_DIGITS && isDigit(sign()); digits++) {
                value = value * 10 + sign() - '0';
                at++;
            }
            code(value);
        }

        /** Behind a fault nothing comes next, so that each rule that is still open ends at once. */
        private int sign() {
            return fault < 0 && at < length ? bytes[at] : NONE;
        }

        private boolean passes(int wanted) {
            if (sign() != wanted) {
                return false;
            }
            at++;
            return true;
        }

        private int passesOneOf(int one, int two, int three) {
            int sign = sign();
            return sign >= 0 && (sign == one || sign == two || sign == three) && passes(sign) ? sign : NONE;
        }

        private void emit(int sign) {
            code(SIGN + sign);
        }

        private void code(int code) {
            if (codeCount < MOST_CODES) {
                codes[codeCount] = code;
                codeCount++;
            }
        }

        private void fail() {
            if (fault < 0) {
                fault = at;
            }
        }

        private static boolean isDigit(int sign) {
            return sign >= '0' && sign <= '9';
        }

        /** In the order in which Reckoner sets the values. */
        static int nameOf(int sign) {
            switch (sign) {
                case 'w': return 0;
                case 'k': return 1;
                case 'o': return 2;
                case 'l': return 3;
                case 'i': return 4;
                case 'm': return 5;
                case 's': return 6;
                case 'n': return 7;
                default: return NONE;
            }
        }
    }

    /** A writer: the codes of the text of heed, the self, the habits. */
    private static final class Law {
        private final int[] codes = new int[Tape.MOST_CODES];
        private int size;
        private int self;
        private int habits;

        void become(Tape tape, int me, int newHabits) {
            size = tape.copyCodes(codes);
            self = me;
            habits = newHabits;
        }

        int size() {
            return size;
        }

        int codeAt(int i) {
            return i >= 0 && i < size ? codes[i] : 0;
        }

        boolean isSelf(int who) {
            return who == self;
        }

        boolean has(int habit) {
            return (habits & habit) != 0;
        }
    }

    /** Works out what a law says of a saying. */
    private static final class Reckoner {
        /** Far above the 36 values that six open signs and five ranks of signs can leave waiting. */
        private static final int DEEPEST = 64;
        private static final int END_OF_LINE = Tape.SIGN + ';';
        private static final int QUERY = Tape.SIGN + '?';

        private final Meeting meeting;
        private final int[] named = new int[Tape.NAMES];
        private final int[] stack = new int[DEEPEST];
        private int top;

        Reckoner(Meeting meeting) {
            this.meeting = meeting;
        }

        int work(Law law, int saying) {
            name(law, saying);
            top = 0;
            boolean passedOver = false;
            for (int at = 0; at < law.size(); at++) {
                int code = law.codeAt(at);
                if (passedOver) {
                    passedOver = code != END_OF_LINE;
                } else if (code == END_OF_LINE) {
                    return pop();
                } else if (code == QUERY) {
                    passedOver = pop() == 0;
                } else {
                    push(valueOf(code));
                }
            }
            return 0;
        }

        /** Once a saying, as a law may tell a name many times; in the order of Tape.nameOf. */
        private void name(Law law, int saying) {
            named[0] = meeting.part(saying, WHO);
            named[1] = meeting.part(saying, SORT);
            named[2] = meeting.part(saying, ON);
            named[3] = meeting.part(saying, LONG);
            named[4] = saying;
            named[5] = meeting.minute(saying);
            named[6] = law.isSelf(named[0]) ? 1 : 0;
            named[7] = meeting.aheadOnSame(saying);
        }

        private int valueOf(int code) {
            if (code < Tape.SIGN) {
                return code;
            }
            int sign = code - Tape.SIGN;
            int name = Tape.nameOf(sign);
            if (name >= 0 && name < named.length) {
                return named[name];
            }
            int right = pop();
            switch (sign) {
                case '!': return right == 0 ? 1 : 0;
                case Tape.NEGATE: return -right;
                default: return joint(sign, pop(), right);
            }
        }

        private static int joint(int sign, int left, int right) {
            switch (sign) {
                case '|': return left != 0 || right != 0 ? 1 : 0;
                case '&': return left != 0 && right != 0 ? 1 : 0;
                case '<': return left < right ? 1 : 0;
                case '=': return left == right ? 1 : 0;
                case '>': return left > right ? 1 : 0;
                case '+': return left + right;
                case '-': return left - right;
                case '*': return left * right;
                case '/': return right == 0 ? 0 : left / right;
                case '%': return right == 0 ? 0 : left % right;
                default: return 0;
            }
        }

        private void push(int value) {
            if (top < DEEPEST) {
                stack[top] = value;
                top++;
            }
        }

        private int pop() {
            if (top <= 0) {
                return 0;
            }
            top--;
            return stack[top];
        }
    }

    /** The writers, and what follows from their laws. */
    private static final class Desk {
        private static final int MOST = 4;
        private static final long WHOLE = 1000000000L;

        private final Meeting meeting;
        private final Reckoner reckoner;
        private final Law[] laws = new Law[MOST];
        private int size;

        Desk(Meeting meeting) {
            this.meeting = meeting;
            reckoner = new Reckoner(meeting);
            for (int i = 0; i < MOST; i++) {
                laws[i] = new Law();
            }
        }

        int size() {
            return size;
        }

        boolean isEmpty() {
            return size == 0;
        }

        boolean isFull() {
            return size >= MOST;
        }

        boolean has(int writer) {
            return writer >= 0 && writer < size;
        }

        int admit(Tape tape, int me, int habits) {
            if (isFull()) {
                return FULL;
            }
            laws[size].become(tape, me, habits);
            size++;
            return size - 1;
        }

        int heedOf(int writer, int saying) {
            if (!has(writer)) {
                return 0;
            }
            return Math.max(0, Math.min(100, reckoner.work(laws[writer], saying)));
        }

        void takeDown(int writer, int seed, Paper paper) {
            if (!has(writer)) {
                return;
            }
            Law law = laws[writer];
            int z = seed;
            for (int saying = 0; saying < meeting.size(); saying++) {
                z = z * 1103515245 + 12345;
                if ((z >>> 8) % 100 < heedOf(writer, saying)) {
                    int length = meeting.part(saying, LONG);
                    boolean own = law.isSelf(meeting.part(saying, WHO));
                    paper.append(saying, meeting.part(saying, SORT), own ? 2 * length : length);
                }
            }
            paper.follow(law, meeting);
        }

        /** Only a chance above 0 counts, so that NOT stays where no law would leave such a paper. */
        int likeliest(Paper paper) {
            int best = NOT;
            long most = 0;
            for (int writer = 0; writer < size; writer++) {
                long chance = chanceOf(writer, paper);
                if (chance > most) {
                    most = chance;
                    best = writer;
                }
            }
            return best;
        }

        private long chanceOf(int writer, Paper paper) {
            long chance = WHOLE;
            for (int saying = 0; saying < meeting.size(); saying++) {
                int heed = heedOf(writer, saying);
                chance = chance * (paper.placeOf(saying) >= 0 ? heed : 100 - heed) / 100;
            }
            return chance;
        }

        int leastOff(int papers, Archive archive) {
            int best = 0;
            int least = offOf(0, papers, archive);
            for (int writer = 1; writer < size; writer++) {
                int off = offOf(writer, papers, archive);
                if (off < least) {
                    least = off;
                    best = writer;
                }
            }
            return best;
        }

        int offOf(int writer, int papers, Archive archive) {
            int told = Integer.bitCount(papers);
            int off = 0;
            for (int saying = 0; saying < meeting.size(); saying++) {
                off += Math.abs(heedOf(writer, saying) * told - 100 * archive.papersWith(saying, papers));
            }
            return off;
        }

        /** The two in one number, as ask() tells them. */
        int bestPair() {
            int best = 1;
            int most = -1;
            for (int one = 0; one < size; one++) {
                for (int other = one + 1; other < size; other++) {
                    int chance = pairChance(one, other);
                    if (chance > most) {
                        most = chance;
                        best = 10 * one + other;
                    }
                }
            }
            return best;
        }

        int pairChance(int one, int other) {
            int chance = 0;
            for (int saying = 0; saying < meeting.size(); saying++) {
                chance += 10000 - (100 - heedOf(one, saying)) * (100 - heedOf(other, saying));
            }
            return chance;
        }
    }

    /** A row of entries: of each its first saying, its sort, how long, whether it was added. */
    private static final class Paper {
        static final int PARTS = 4;
        private static final int FIRST = 0;
        private static final int KIND = 1;
        private static final int LASTS = 2;
        private static final int ADDED = 3;
        private static final int JOINS = 1;
        private static final int SOFTENS = 2;
        private static final int LAST = 4;
        private static final int SPOKE = 0;
        private static final int AGAINST = 2;
        private static final int DECIDED = 3;
        private static final int MOST_READ = 999;

        private final int[][] entries = new int[PARTS][Meeting.MOST];
        private int size;
        private int writer;

        void begin(int newWriter) {
            size = 0;
            writer = newWriter;
        }

        int size() {
            return size;
        }

        int by() {
            return writer;
        }

        boolean hasPlace(int i) {
            return i >= 0 && i < size;
        }

        int part(int place, int part) {
            return hasPlace(place) && part >= 0 && part < PARTS ? entries[part][place] : 0;
        }

        int placeOf(int saying) {
            for (int place = 0; place < size; place++) {
                if (entries[FIRST][place] == saying) {
                    return place;
                }
            }
            return -1;
        }

        int bits() {
            int bits = 0;
            for (int place = 0; place < size; place++) {
                bits |= 1 << entries[FIRST][place];
            }
            return bits;
        }

        int total() {
            int total = 0;
            for (int place = 0; place < size; place++) {
                total += entries[LASTS][place];
            }
            return total;
        }

        boolean append(int saying, int sort, int length) {
            if (size >= Meeting.MOST) {
                return false;
            }
            entries[FIRST][size] = saying;
            entries[KIND][size] = sort;
            entries[LASTS][size] = length;
            entries[ADDED][size] = 0;
            size++;
            return true;
        }

        void markAdded(int place) {
            if (hasPlace(place)) {
                entries[ADDED][place] = 1;
            }
        }

        void drop(int place) {
            if (hasPlace(place)) {
                move(place, size - 1);
                size--;
            }
        }

        void move(int from, int to) {
            if (!hasPlace(from) || !hasPlace(to)) {
                return;
            }
            for (int[] row : entries) {
                int moved = row[from];
                if (from < to) {
                    System.arraycopy(row, from + 1, row, from, to - from);
                } else {
                    System.arraycopy(row, to, row, to + 1, from - to);
                }
                row[to] = moved;
            }
        }

        void follow(Law law, Meeting meeting) {
            if (law.has(JOINS)) {
                join(meeting);
            }
            if (law.has(SOFTENS)) {
                soften();
            }
            if (law.has(LAST)) {
                decisionsLast();
            }
        }

        /** From behind, as being alike runs through: what the first pair on would leave is left, too. */
        private void join(Meeting meeting) {
            for (int place = size - 2; place >= 0; place--) {
                if (isAlike(meeting, entries[FIRST][place], entries[FIRST][place + 1])) {
                    entries[LASTS][place] += entries[LASTS][place + 1];
                    drop(place + 1);
                }
            }
        }

        private static boolean isAlike(Meeting meeting, int one, int other) {
            return meeting.part(one, WHO) == meeting.part(other, WHO)
                    && meeting.part(one, ON) == meeting.part(other, ON);
        }

        private void soften() {
            for (int place = 0; place < size; place++) {
                if (entries[KIND][place] == AGAINST) {
                    entries[KIND][place] = SPOKE;
                }
            }
        }

        private void decisionsLast() {
            int place = 0;
            for (int seen = 0; seen < size; seen++) {
                if (part(place, KIND) == DECIDED) {
                    move(place, size - 1);
                } else {
                    place++;
                }
            }
        }

        /** From behind, so that what falls away moves nothing that is still to be looked at. */
        int hear(Meeting meeting, int who) {
            int before = size;
            for (int place = size - 1; place >= 0; place--) {
                if (meeting.part(entries[FIRST][place], WHO) != who) {
                    continue;
                }
                if (entries[KIND][place] == AGAINST) {
                    drop(place);
                } else {
                    entries[LASTS][place] = Math.min(MOST_READ, 2 * entries[LASTS][place]);
                }
            }
            return before - size;
        }

        int shorten(int n) {
            int fallen = Math.max(0, size - n);
            for (int fall = 0; fall < fallen; fall++) {
                drop(shortest());
            }
            return fallen;
        }

        private int shortest() {
            int best = 0;
            for (int place = 1; place < size; place++) {
                if (entries[LASTS][place] <= entries[LASTS][best]) {
                    best = place;
                }
            }
            return best;
        }
    }

    /** The papers, and what they tell years after. */
    private static final class Archive {
        private static final int MOST = 10;
        private static final int MOST_WRITTEN = 7;

        private final Meeting meeting;
        private final Paper[] papers = new Paper[MOST];
        private final int[][] leads = new int[Meeting.MOST][Meeting.MOST];
        private int size;

        Archive(Meeting meeting) {
            this.meeting = meeting;
            for (int i = 0; i < MOST; i++) {
                papers[i] = new Paper();
            }
        }

        int size() {
            return size;
        }

        int open(int writer) {
            if (size >= MOST) {
                return FULL;
            }
            papers[size].begin(writer);
            size++;
            return size - 1;
        }

        Paper paper(int number) {
            return number >= 0 && number < size ? papers[number] : null;
        }

        int papersWith(int saying) {
            return papersWith(saying, (1 << size) - 1);
        }

        int papersWith(int saying, int among) {
            int with = 0;
            for (int paper = 0; paper < size; paper++) {
                if ((among >> paper & 1) != 0 && papers[paper].placeOf(saying) >= 0) {
                    with++;
                }
            }
            return with;
        }

        int writersWith(int saying) {
            int writers = 0;
            for (int paper = 0; paper < size; paper++) {
                if (papers[paper].by() >= 0 && papers[paper].placeOf(saying) >= 0) {
                    writers |= 1 << papers[paper].by();
                }
            }
            return Integer.bitCount(writers);
        }

        int onlyOnce() {
            int bits = 0;
            for (int saying = 0; saying < meeting.size(); saying++) {
                if (papersWith(saying) == 1) {
                    bits |= 1 << saying;
                }
            }
            return bits;
        }

        int fightsOf(Paper one, Paper other) {
            int fights = 0;
            for (int a = 0; a < meeting.size(); a++) {
                for (int b = a + 1; b < meeting.size(); b++) {
                    if (isFight(one, other, a, b)) {
                        fights++;
                    }
                }
            }
            return fights;
        }

        int firstFight(Paper one, Paper other) {
            for (int a = 0; a < meeting.size(); a++) {
                for (int b = a + 1; b < meeting.size(); b++) {
                    if (isFight(one, other, a, b)) {
                        return 100 * a + b;
                    }
                }
            }
            return NOT;
        }

        private static boolean isFight(Paper one, Paper other, int a, int b) {
            int inOne = one.placeOf(a);
            int inOther = other.placeOf(a);
            int nextInOne = one.placeOf(b);
            int nextInOther = other.placeOf(b);
            if (inOne < 0 || inOther < 0 || nextInOne < 0 || nextInOther < 0) {
                return false;
            }
            return (inOne < nextInOne) != (inOther < nextInOther);
        }

        /** Worked out anew each time, as papers change between calls. */
        int inOrder(int i) {
            int left = 0;
            for (int paper = 0; paper < size; paper++) {
                left |= papers[paper].bits();
            }
            if (i < 0 || i >= Integer.bitCount(left)) {
                return BAD;
            }
            countLeads();
            for (int passed = 0; passed < i; passed++) {
                left &= ~(1 << foremost(left));
            }
            return foremost(left);
        }

        private void countLeads() {
            for (int[] row : leads) {
                for (int b = 0; b < row.length; b++) {
                    row[b] = 0;
                }
            }
            for (int paper = 0; paper < size; paper++) {
                countLeadsOf(papers[paper]);
            }
        }

        private void countLeadsOf(Paper paper) {
            for (int ahead = 0; ahead < paper.size(); ahead++) {
                for (int behind = ahead + 1; behind < paper.size(); behind++) {
                    countLead(paper.part(ahead, Paper.FIRST), paper.part(behind, Paper.FIRST));
                }
            }
        }

        private void countLead(int a, int b) {
            if (a >= 0 && a < Meeting.MOST && b >= 0 && b < Meeting.MOST) {
                leads[a][b]++;
                leads[b][a]--;
            }
        }

        private int foremost(int left) {
            int best = 0;
            int most = -1;
            for (int a = 0; a < Meeting.MOST; a++) {
                int beaten = (left >> a & 1) != 0 ? beatenBy(a, left) : -1;
                if (beaten > most) {
                    most = beaten;
                    best = a;
                }
            }
            return best;
        }

        private int beatenBy(int a, int left) {
            int beaten = 0;
            for (int b = 0; b < Meeting.MOST; b++) {
                if ((left >> b & 1) != 0 && leads[a][b] > 0) {
                    beaten++;
                }
            }
            return beaten;
        }

        long chanceIfSaid(int saying, Desk desk) {
            long chance = 1;
            int written = 0;
            for (int paper = 0; paper < size && written < MOST_WRITTEN; paper++) {
                int writer = papers[paper].by();
                if (writer >= 0) {
                    int heed = desk.heedOf(writer, saying);
                    chance *= papers[paper].placeOf(saying) >= 0 ? heed : 100 - heed;
                    written++;
                }
            }
            return chance;
        }

        long chanceIfNot(int saying) {
            long chance = 1;
            int written = 0;
            for (int paper = 0; paper < size && written < MOST_WRITTEN; paper++) {
                if (papers[paper].by() >= 0) {
                    chance *= papers[paper].placeOf(saying) >= 0 ? 0 : 100;
                    written++;
                }
            }
            return chance;
        }

        /** From within a row that the paper lacks the span is shorter, so that only firsts are found. */
        int longestGap(Paper paper) {
            int best = -1;
            int longest = 0;
            for (int first = 0; first < meeting.size(); first++) {
                int span = spanFrom(paper, first);
                if (span > longest) {
                    longest = span;
                    best = first;
                }
            }
            return best;
        }

        int spanFrom(Paper paper, int first) {
            int span = 0;
            for (int saying = first; saying < meeting.size() && paper.placeOf(saying) < 0; saying++) {
                span += meeting.part(saying, LONG);
            }
            return span;
        }
    }

    /** The entries kept by call, and the acts that come to them from their kinds. */
    private static final class Acts {
        static final int NO_KIND = -1;
        private static final int MOST = 50;
        private static final int MOST_TRACED = 24;
        private static final int DEEPEST = 40;
        private static final int KINDS = 8;
        private static final int SAYS = 0;
        private static final int TAKES = 1;
        private static final int MENDS = 2;
        private static final int JOINS = 3;
        private static final int ACTS = 4;
        private static final int[] ABOVE = {-1, 0, 1, 1, 0, 3, 0, 2};
        /** By kind, the body of each act; 0, if the kind has none of its own. */
        private static final int[] BODIES = {
            1, 10, 11, 2,
            20, 0, 0, 0,
            0, 30, 0, 0,
            0, 41, 40, 0,
            0, 0, 0, 50,
            0, 0, 60, 61,
            70, 0, 0, 0,
            0, 80, 0, 81,
        };

        private final int[] kinds = new int[MOST];
        private final int[] tracedBodies = new int[MOST_TRACED];
        private int size;
        private int ran;
        private int actor;

        static boolean isKind(int kind) {
            return kind >= 0 && kind < KINDS;
        }

        static boolean isUnder(int kind, int above) {
            int at = kind;
            for (int step = 0; step < KINDS && isKind(at); step++) {
                if (at == above) {
                    return true;
                }
                at = ABOVE[at];
            }
            return false;
        }

        int size() {
            return size;
        }

        int ran() {
            return ran;
        }

        boolean has(int body) {
            return body >= 0 && body < size;
        }

        int kindOf(int body) {
            return has(body) ? kinds[body] : NO_KIND;
        }

        int admit(int kind) {
            if (size >= MOST) {
                return FULL;
            }
            kinds[size] = kind;
            size++;
            return size - 1;
        }

        int traced(int i) {
            return i >= 0 && i < ran && i < MOST_TRACED ? tracedBodies[i] : BAD;
        }

        int begin(int body, int act, int x) {
            ran = 0;
            if (!has(body) || act < SAYS || act > JOINS) {
                return 0;
            }
            actor = body;
            return own(act, x, 0);
        }

        private int own(int act, int x, int depth) {
            return from(kindOf(actor), act, x, depth);
        }

        /** A kind without a body of its own leaves the act to the next kind above that has one. */
        private int from(int kind, int act, int x, int depth) {
            int at = kind;
            for (int step = 0; step < KINDS && isKind(at); step++) {
                int number = BODIES[ACTS * at + act];
                if (number != 0) {
                    return depth < DEEPEST ? run(number, ABOVE[at], x, depth + 1) : 0;
                }
                at = ABOVE[at];
            }
            return 0;
        }

        private int run(int number, int above, int x, int depth) {
            note(number);
            switch (number) {
                case 1: return x + actor;
                case 2: return own(TAKES, x, depth) - own(MENDS, 1, depth);
                case 10: return own(SAYS, x, depth) * 2;
                case 11: return x ^ actor;
                case 20: return from(above, SAYS, x, depth) + 3;
                case 30: return -from(above, TAKES, x, depth);
                case 40: return from(above, MENDS, x, depth) * 3;
                case 41: return from(above, TAKES, x + 1, depth);
                case 50: return from(above, JOINS, x, depth) ^ 5;
                case 60: return from(above, MENDS, x, depth) - own(SAYS, 2, depth);
                case 61: return from(above, JOINS, x, depth) + 1;
                case 70: return from(above, SAYS, x, depth) * 2;
                case 80: return from(above, TAKES, x, depth) + own(MENDS, 2, depth);
                case 81: return from(above, JOINS, x, depth) - 1;
                default: return 0;
            }
        }

        private void note(int number) {
            if (ran < MOST_TRACED) {
                tracedBodies[ran] = number;
            }
            ran++;
        }
    }

    /** A shelf: nothing, an entry kept by call, or a row. */
    private static final class Shelf {
        static final int MOST = 60;
        static final int NO_BODY = -1;
        private static final int BYTES = 0;
        private static final int SHORTS = 1;
        private static final int INTS = 2;
        private static final int LONGS = 3;
        private static final int BOOLEANS = 4;
        private static final int NO_ROW = -1;

        private final long[] elements = new long[MOST];
        private int body = NO_BODY;
        private int sort = NO_ROW;
        private int length;

        static boolean isRowSort(int sort) {
            return sort >= BYTES && sort <= BOOLEANS;
        }

        boolean isBare() {
            return body == NO_BODY && sort == NO_ROW;
        }

        boolean holdsRow() {
            return sort != NO_ROW;
        }

        boolean holdsBytes() {
            return sort == BYTES;
        }

        int heldBody() {
            return body;
        }

        int sort() {
            return sort;
        }

        int length() {
            return length;
        }

        void holdBody(int newBody) {
            body = newBody;
            sort = NO_ROW;
            length = 0;
        }

        void holdRow(int newSort, int n) {
            body = NO_BODY;
            sort = newSort;
            length = Math.max(0, Math.min(MOST, n));
            for (int i = 0; i < length; i++) {
                elements[i] = 0;
            }
        }

        boolean hasRange(int i, int n) {
            return i >= 0 && n >= 0 && (long) i + n <= length;
        }

        long at(int i) {
            return hasRange(i, 1) ? elements[i] : 0;
        }

        void set(int i, long v) {
            if (hasRange(i, 1)) {
                elements[i] = lowest(v);
            }
        }

        void copyTo(int i, Shelf to, int j, int n) {
            if (hasRange(i, n) && to.hasRange(j, n)) {
                System.arraycopy(elements, i, to.elements, j, n);
            }
        }

        private long lowest(long v) {
            switch (sort) {
                case BYTES: return (byte) v;
                case SHORTS: return (short) v;
                case INTS: return (int) v;
                case LONGS: return v;
                default: return v != 0 ? 1 : 0;
            }
        }
    }
}
