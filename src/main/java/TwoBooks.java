import java.util.Arrays;

/**
 * A desk between two books that tell of the same money in other words: their lines are brought
 * together in groups, and what is in no group stands as a break.
 */
public final class TwoBooks {
    public static final int NONE = -1, TAKEN = -2, LOCKED = -3, BIG = -4, FULL = -5;

    private static final int NO_SUCH_SET = -6;
    private static final int NO_RIVAL = 1;
    private static final int NO_LINE = -2000000;
    private static final int NO_GROUP = -20000000;
    private static final long NO_DAY = -2000000000000L;

    private static final int MOST_LINES = 80;
    private static final int MOST_GROUPS = 200;
    private static final int MOST_MEMBERS = 8;
    private static final int MOST_ACTS = 60;
    private static final int MOST_PAIRED = 14;
    private static final int MOST_SETS = 5000;
    private static final int MOST_IN_SET = 4;
    private static final int MOST_EXPLAINED = 18;

    private static final int TOP_AMOUNT = 1000000;
    private static final int DAY_UNIT = 10000;
    private static final int TOP_DAY_MARK = 99999999;
    private static final int TOP_WORD = 99;
    private static final int TOP_TODAY = 99999;
    private static final int TOP_SPAN = 99;
    private static final int TOP_COINS = 10000;
    private static final int TOP_SURE = 1000;
    private static final int MOST_LEARNT = 5;

    private static final int SORT_BEST = 0;
    private static final int SORT_SET = 1;
    private static final int SORT_HAND = 2;

    private static final int ACT_LINE = 0;
    private static final int ACT_GROUP = 1;
    private static final int ACT_JOIN = 2;
    private static final int ACT_PART = 3;
    private static final int ACT_LOCK = 4;

    private static final int KIND_GROUP = 2;

    private final Book[] books = {new Book(0), new Book(1)};
    private final Group[] groups = new Group[MOST_GROUPS];
    private final Acts acts = new Acts();
    private final Pairing pairing = new Pairing();
    private final Sets found = new Sets();
    private final Explanation explanation = new Explanation();
    private int groupsMade = 0;
    private int now = 0;
    private int span = 5;
    private int coins = 0;
    /** Grows with all that is done but asking, so that a PAIRING or SETS can tell if they are still fresh. */
    private int changes = 0;

    public TwoBooks() {
        for (int g = 0; g < MOST_GROUPS; g++) {
            groups[g] = new Group();
        }
    }

    public int line(int book, int amount, int dayMark, int word) {
        if (!isBook(book) || amount == 0 || !isWithin(amount, -TOP_AMOUNT, TOP_AMOUNT)
                || !isWithin(dayMark, 0, TOP_DAY_MARK) || !isWithin(word, 0, TOP_WORD)) {
            return NONE;
        }
        Book to = books[book];
        if (to.used >= MOST_LINES) {
            return FULL;
        }
        to.lines[to.used].write(amount, dayMark / DAY_UNIT, dayMark % DAY_UNIT, word, now);
        to.used++;
        carriedOut(ACT_LINE, book, 0);
        return to.used - 1;
    }

    public int today(int d) {
        if (!isWithin(d, now, TOP_TODAY)) {
            return NONE;
        }
        int was = now;
        if (d != was) {
            now = d;
            endUndoing();
        }
        return was;
    }

    public int terms(int span, int coins) {
        if (!isWithin(span, 0, TOP_SPAN) || !isWithin(coins, 0, TOP_COINS)) {
            return NONE;
        }
        if (span != this.span || coins != this.coins) {
            this.span = span;
            this.coins = coins;
            endUndoing();
        }
        return 1;
    }

    public int told(int book, int i, int what) {
        Line line = lineAt(book, i);
        if (line == null) {
            return NO_LINE;
        }
        switch (what) {
            case 0: return line.amount;
            case 1: return line.day;
            case 2: return line.word;
            case 3: return line.mark;
            case 4: return line.known;
            case 5: return line.group;
            case 6: return line.isBreak() ? now - line.known : NONE;
            default: return NO_LINE;
        }
    }

    public int fit(int a, int b) {
        Line first = lineAt(0, a);
        Line second = lineAt(1, b);
        return first == null || second == null ? NONE : fitOf(first, second);
    }

    // ---- pairing

    public int best() {
        if (books[0].breaksAged(0, now) > MOST_PAIRED || books[1].breaksAged(0, now) > MOST_PAIRED) {
            return BIG;
        }
        pairing.gather(books[0], books[1]);
        for (int r = 0; r < pairing.rows; r++) {
            Line first = books[0].lines[pairing.rowLine[r]];
            for (int c = 0; c < pairing.columns; c++) {
                Line second = books[1].lines[pairing.columnLine[c]];
                pairing.seats.worth[r][c] = fitOf(first, second);
            }
        }
        pairing.find();
        pairing.asOf = changes;
        return pairing.total;
    }

    public int with(int a) {
        int row = freshRow(a);
        if (row == NONE || pairing.partner[row] == NONE) {
            return NONE;
        }
        return pairing.columnLine[pairing.partner[row]];
    }

    public int rival(int a) {
        int row = freshRow(a);
        return row == NONE ? NO_RIVAL : pairing.rivals[row];
    }

    public int pair(int sure) {
        if (!isWithin(sure, 0, TOP_SURE) || pairing.asOf != changes) {
            return NONE;
        }
        int many = pairing.countSure(sure);
        if (groupsMade >= MOST_GROUPS || groupsMade + many > MOST_GROUPS) {
            return FULL;
        }
        for (int r = 0; r < pairing.rows; r++) {
            if (pairing.isSure(r, sure)) {
                Line first = books[0].lines[pairing.rowLine[r]];
                Line second = books[1].lines[pairing.columnLine[pairing.partner[r]]];
                makeGroup(SORT_BEST, first, second);
                carriedOut(ACT_GROUP, groupsMade - 1, 0);
            }
        }
        return many;
    }

    // ---- sets

    public int sets(int book, int i, int m, int e) {
        Line line = lineAt(book, i);
        if (line == null || !isWithin(m, 1, MOST_IN_SET) || !isWithin(e, 0, TOP_COINS)) {
            return NONE;
        }
        if (!line.isBreak()) {
            return TAKEN;
        }
        found.gather(line, books[1 - book], span);
        found.find(m, e);
        found.asOf = changes;
        return found.many;
    }

    public int size(int k) {
        return found.isThere(k) ? found.sizeOf(k) : NONE;
    }

    public int in(int k, int j) {
        return found.isThere(k) && isWithin(j, 0, found.sizeOf(k) - 1) ? found.lineIn(k, j) : NONE;
    }

    public int set(int k) {
        if (!found.isThere(k) || found.asOf != changes) {
            return NONE;
        }
        if (groupsMade >= MOST_GROUPS) {
            return FULL;
        }
        Book other = books[1 - found.book];
        Line line = books[found.book].lines[found.line];
        int number = makeGroup(SORT_SET, line, other.lines[found.lineIn(k, 0)]);
        for (int j = 1; j < found.sizeOf(k); j++) {
            addTo(number, other.lines[found.lineIn(k, j)]);
        }
        carriedOut(ACT_GROUP, number, 0);
        return number;
    }

    // ---- hands

    public int hand(int a, int b) {
        Line first = lineAt(0, a);
        Line second = lineAt(1, b);
        if (first == null || second == null) {
            return NONE;
        }
        if (!first.isBreak() || !second.isBreak()) {
            return TAKEN;
        }
        if (groupsMade >= MOST_GROUPS) {
            return FULL;
        }
        int number = makeGroup(SORT_HAND, first, second);
        carriedOut(ACT_GROUP, number, 0);
        return number;
    }

    public int join(int group, int book, int i) {
        Line line = lineAt(book, i);
        if (!isGroupThere(group) || line == null) {
            return NONE;
        }
        if (!line.isBreak()) {
            return TAKEN;
        }
        Group to = groups[group];
        if (to.locked == 1) {
            return LOCKED;
        }
        if (to.used >= MOST_MEMBERS) {
            return FULL;
        }
        int sort = to.sort;
        to.sort = SORT_HAND;
        addTo(group, line);
        carriedOut(ACT_JOIN, group, sort);
        return to.used;
    }

    public int part(int group) {
        if (!isGroupThere(group)) {
            return NONE;
        }
        Group parting = groups[group];
        if (parting.locked == 1) {
            return LOCKED;
        }
        parting.parted = now;
        parting.claimLines(NONE);
        carriedOut(ACT_PART, group, 0);
        return parting.used;
    }

    public int lock(int group, int is) {
        if (!isGroupThere(group) || !isWithin(is, 0, 1)) {
            return NONE;
        }
        int was = groups[group].locked;
        groups[group].locked = is;
        carriedOut(ACT_LOCK, group, was);
        return was;
    }

    public int group(int g, int what) {
        if (!isWithin(g, 0, groupsMade - 1)) {
            return NO_GROUP;
        }
        Group group = groups[g];
        switch (what) {
            case 0: return group.sort;
            case 1: return group.used;
            case 2: return group.difference();
            case 3: return group.made;
            case 4: return group.parted;
            case 5: return group.locked;
            default: return NO_GROUP;
        }
    }

    // ---- what is left

    public int breaks(int book, int a) {
        return isBook(book) && a >= 0 ? books[book].breaksAged(a, now) : NONE;
    }

    public int broken(int book, int i) {
        return isBook(book) ? books[book].breakAt(i) : NONE;
    }

    public long sum(int what) {
        switch (what) {
            case 0: return booksDifference();
            case 1: return books[0].sumOfBreaks();
            case 2: return books[1].sumOfBreaks();
            case 3: return groupsDifference();
            default: return 0;
        }
    }

    public long as(int day, int what) {
        if (!isWithin(day, 0, now) || !isWithin(what, 0, 2)) {
            return NO_DAY;
        }
        int standing = countHolders(day);
        switch (what) {
            case 0: return books[0].countUnheld(day) + books[1].countUnheld(day);
            case 1: return books[0].sumUnheld(day) - books[1].sumUnheld(day);
            default: return standing;
        }
    }

    public int explain() {
        if (books[0].breaksAged(0, now) + books[1].breaksAged(0, now) + countUneven() > MOST_EXPLAINED) {
            return BIG;
        }
        explanation.start();
        explanation.addBreaks(books[0], 1);
        explanation.addBreaks(books[1], -1);
        for (int g = 0; g < groupsMade; g++) {
            if (groups[g].isUneven()) {
                explanation.add(KIND_GROUP, g, groups[g].difference());
            }
        }
        return explanation.find(booksDifference()) ? explanation.many : NO_SUCH_SET;
    }

    public int explained(int j, int what) {
        if (!isWithin(j, 0, explanation.many - 1)) {
            return NONE;
        }
        switch (what) {
            case 0: return explanation.chosenKind[j];
            case 1: return explanation.chosenNumber[j];
            default: return NONE;
        }
    }

    public int undo() {
        if (acts.used == 0) {
            return NONE;
        }
        int latest = acts.takeLatest();
        takeBack(acts.kind[latest], acts.subject[latest], acts.before[latest]);
        changes++;
        return acts.used;
    }

    public int count(int what) {
        switch (what) {
            case 0: return books[0].used;
            case 1: return books[1].used;
            case 2: return groupsMade;
            case 3: return countThere();
            case 4: return acts.used;
            case 5: return now;
            default: return NONE;
        }
    }

    public int check() {
        countHolders(now);
        int wrong = 0;
        if (!books[0].isHeldRightly() || !books[1].isHeldRightly()) {
            wrong++;
        }
        if (booksDifference() != books[0].sumOfBreaks() - books[1].sumOfBreaks() + groupsDifference()) {
            wrong++;
        }
        if (!allHaveBothBooks()) {
            wrong++;
        }
        return wrong;
    }

    private static boolean isWithin(int value, int least, int most) {
        return value >= least && value <= most;
    }

    private static boolean isBook(int book) {
        return book == 0 || book == 1;
    }

    private Line lineAt(int book, int i) {
        return isBook(book) && isWithin(i, 0, books[book].used - 1) ? books[book].lines[i] : null;
    }

    private boolean isGroupThere(int group) {
        return isWithin(group, 0, groupsMade - 1) && groups[group].isThere();
    }

    private int fitOf(Line a, Line b) {
        int days = Math.abs(a.day - b.day);
        int apart = Math.abs(a.amount - b.amount);
        boolean bothMarked = a.mark != 0 && b.mark != 0;
        if (days > span || apart > coins || bothMarked && a.mark != b.mark) {
            return 0;
        }
        int fit = 100 - 2 * days - apart / 100;
        if (bothMarked) {
            fit += 50;
        }
        if (a.word == b.word) {
            fit += 30;
        }
        return Math.max(1, fit + 10 * learnt(a.word, b.word));
    }

    private int learnt(int firstWord, int secondWord) {
        int times = 0;
        for (int g = 0; g < groupsMade && times < MOST_LEARNT; g++) {
            Group group = groups[g];
            if (group.isThere() && group.sort == SORT_HAND
                    && group.hasWord(0, firstWord) && group.hasWord(1, secondWord)) {
                times++;
            }
        }
        return times;
    }

    /** The row of line a of book 0 in the latest PAIRING, as long as that one may be asked for. */
    private int freshRow(int a) {
        return pairing.asOf == changes ? pairing.rowOf(a) : NONE;
    }

    private int makeGroup(int sort, Line first, Line second) {
        int number = groupsMade;
        groups[number].open(sort, now);
        groupsMade++;
        addTo(number, first);
        addTo(number, second);
        return number;
    }

    private void addTo(int number, Line line) {
        groups[number].add(line);
        line.group = number;
    }

    private void carriedOut(int kind, int subject, int before) {
        acts.put(kind, subject, before);
        changes++;
    }

    private void endUndoing() {
        acts.used = 0;
        changes++;
    }

    private void takeBack(int kind, int subject, int before) {
        switch (kind) {
            case ACT_LINE:
                books[subject].used--;
                break;
            case ACT_GROUP:
                groups[subject].claimLines(NONE);
                groupsMade--;
                break;
            case ACT_JOIN:
                groups[subject].dropLatest();
                groups[subject].sort = before;
                break;
            case ACT_PART:
                groups[subject].parted = NONE;
                groups[subject].claimLines(subject);
                break;
            default:
                groups[subject].locked = before;
                break;
        }
    }

    private int booksDifference() {
        return books[0].sumOfAll() - books[1].sumOfAll();
    }

    private int groupsDifference() {
        int sum = 0;
        for (int g = 0; g < groupsMade; g++) {
            if (groups[g].isThere()) {
                sum += groups[g].difference();
            }
        }
        return sum;
    }

    private int countThere() {
        int there = 0;
        for (int g = 0; g < groupsMade; g++) {
            if (groups[g].isThere()) {
                there++;
            }
        }
        return there;
    }

    private int countUneven() {
        int uneven = 0;
        for (int g = 0; g < groupsMade; g++) {
            if (groups[g].isUneven()) {
                uneven++;
            }
        }
        return uneven;
    }

    private boolean allHaveBothBooks() {
        for (int g = 0; g < groupsMade; g++) {
            if (groups[g].isThere() && !groups[g].hasBothBooks()) {
                return false;
            }
        }
        return true;
    }

    /** Writes to each LINE how many GROUPS hold it as of a day, and tells how many GROUPS there are then. */
    private int countHolders(int day) {
        books[0].clearHolders();
        books[1].clearHolders();
        int standing = 0;
        for (int g = 0; g < groupsMade; g++) {
            if (groups[g].isStandingOn(day)) {
                groups[g].holdLines();
                standing++;
            }
        }
        return standing;
    }

    /** A line of a book; its book and number are for good, the rest is written anew when a line comes. */
    private static final class Line {
        final int book;
        final int number;
        int amount;
        int day;
        int mark;
        int word;
        int known;
        int group = NONE;
        int holders;

        Line(int book, int number) {
            this.book = book;
            this.number = number;
        }

        void write(int amount, int day, int mark, int word, int known) {
            this.amount = amount;
            this.day = day;
            this.mark = mark;
            this.word = word;
            this.known = known;
            this.group = NONE;
        }

        boolean isBreak() {
            return group == NONE;
        }

        boolean isUnheld(int day) {
            return known <= day && holders == 0;
        }
    }

    private static final class Book {
        final Line[] lines = new Line[MOST_LINES];
        int used = 0;

        Book(int book) {
            for (int i = 0; i < MOST_LINES; i++) {
                lines[i] = new Line(book, i);
            }
        }

        int breaksAged(int age, int today) {
            int many = 0;
            for (int i = 0; i < used; i++) {
                if (lines[i].isBreak() && today - lines[i].known >= age) {
                    many++;
                }
            }
            return many;
        }

        int breakAt(int place) {
            int passed = 0;
            for (int i = 0; i < used; i++) {
                if (lines[i].isBreak()) {
                    if (passed == place) {
                        return i;
                    }
                    passed++;
                }
            }
            return NONE;
        }

        int sumOfAll() {
            int sum = 0;
            for (int i = 0; i < used; i++) {
                sum += lines[i].amount;
            }
            return sum;
        }

        int sumOfBreaks() {
            int sum = 0;
            for (int i = 0; i < used; i++) {
                if (lines[i].isBreak()) {
                    sum += lines[i].amount;
                }
            }
            return sum;
        }

        void clearHolders() {
            for (int i = 0; i < used; i++) {
                lines[i].holders = 0;
            }
        }

        int countUnheld(int day) {
            int many = 0;
            for (int i = 0; i < used; i++) {
                if (lines[i].isUnheld(day)) {
                    many++;
                }
            }
            return many;
        }

        int sumUnheld(int day) {
            int sum = 0;
            for (int i = 0; i < used; i++) {
                if (lines[i].isUnheld(day)) {
                    sum += lines[i].amount;
                }
            }
            return sum;
        }

        boolean isHeldRightly() {
            for (int i = 0; i < used; i++) {
                if (lines[i].holders != (lines[i].isBreak() ? 0 : 1)) {
                    return false;
                }
            }
            return true;
        }
    }

    /** A group; one that is PARTED keeps its list of lines, for as() and for undo(). */
    private static final class Group {
        final Line[] lines = new Line[MOST_MEMBERS];
        int used;
        int sort;
        int made;
        int parted;
        int locked;

        void open(int sort, int day) {
            this.used = 0;
            this.sort = sort;
            this.made = day;
            this.parted = NONE;
            this.locked = 0;
        }

        void add(Line line) {
            if (used < MOST_MEMBERS) {
                lines[used] = line;
                used++;
            }
        }

        void dropLatest() {
            if (used > 0) {
                used--;
                lines[used].group = NONE;
            }
        }

        void claimLines(int number) {
            for (int j = 0; j < used; j++) {
                lines[j].group = number;
            }
        }

        void holdLines() {
            for (int j = 0; j < used; j++) {
                lines[j].holders++;
            }
        }

        boolean isThere() {
            return parted == NONE;
        }

        boolean isStandingOn(int day) {
            return made <= day && (parted == NONE || parted > day);
        }

        boolean isUneven() {
            return isThere() && difference() != 0;
        }

        int difference() {
            int sum = 0;
            for (int j = 0; j < used; j++) {
                sum += lines[j].book == 0 ? lines[j].amount : -lines[j].amount;
            }
            return sum;
        }

        boolean hasWord(int book, int word) {
            for (int j = 0; j < used; j++) {
                if (lines[j].book == book && lines[j].word == word) {
                    return true;
                }
            }
            return false;
        }

        boolean hasBothBooks() {
            int ofFirst = 0;
            for (int j = 0; j < used; j++) {
                if (lines[j].book == 0) {
                    ofFirst++;
                }
            }
            return ofFirst > 0 && ofFirst < used;
        }
    }

    /** The latest acts that can be undone, in a ring: when it is full, the oldest gives its place to the newest. */
    private static final class Acts {
        final int[] kind = new int[MOST_ACTS];
        final int[] subject = new int[MOST_ACTS];
        final int[] before = new int[MOST_ACTS];
        int next = 0;
        int used = 0;

        void put(int kind, int subject, int before) {
            this.kind[next] = kind;
            this.subject[next] = subject;
            this.before[next] = before;
            next = (next + 1) % MOST_ACTS;
            used = Math.min(used + 1, MOST_ACTS);
        }

        int takeLatest() {
            next = (next + MOST_ACTS - 1) % MOST_ACTS;
            used--;
            return next;
        }
    }

    /** The BEST PAIRING of the breaks, as it was when it was asked for. */
    private static final class Pairing {
        final Seats seats = new Seats();
        final int[] rowLine = new int[MOST_PAIRED];
        final int[] columnLine = new int[MOST_PAIRED];
        final int[] partner = new int[MOST_PAIRED];
        final int[] rivals = new int[MOST_PAIRED];
        int rows = 0;
        int columns = 0;
        int total = 0;
        int asOf = NONE;

        void gather(Book first, Book second) {
            rows = gatherBreaks(first, rowLine);
            columns = gatherBreaks(second, columnLine);
            seats.clear(Math.max(rows, columns));
        }

        private static int gatherBreaks(Book book, int[] into) {
            int many = 0;
            for (int i = 0; i < book.used && many < MOST_PAIRED; i++) {
                if (book.lines[i].isBreak()) {
                    into[many] = i;
                    many++;
                }
            }
            return many;
        }

        void find() {
            seats.seatAll();
            seats.favourFirst();
            total = seats.total();
            for (int r = 0; r < rows; r++) {
                int column = seats.columnOf(r);
                partner[r] = seats.worth[r][column] > 0 ? column : NONE;
            }
            seats.keep();
            for (int r = 0; r < rows; r++) {
                rivals[r] = partner[r] == NONE ? NO_RIVAL : seats.totalWithout(r, partner[r]) - total;
            }
        }

        int rowOf(int line) {
            for (int r = 0; r < rows; r++) {
                if (rowLine[r] == line) {
                    return r;
                }
            }
            return NONE;
        }

        boolean isSure(int row, int sure) {
            return partner[row] != NONE && rivals[row] <= -sure;
        }

        int countSure(int sure) {
            int many = 0;
            for (int r = 0; r < rows; r++) {
                if (isSure(r, sure)) {
                    many++;
                }
            }
            return many;
        }
    }

    /**
     * Seats each row of a square table at a column of its own, with the greatest sum of worths. A worth of 0
     * stands for "no pair", so that a full seating tells a PAIRING. Rows and columns have prices: those of a
     * row and a column together are never less than their worth, and just their worth where the row sits;
     * so a seating is one of the greatest if, and only if, all its seats are tight in this way.
     */
    private static final class Seats {
        private static final int FAR = 1000000000;

        final int[][] worth = new int[MOST_PAIRED][MOST_PAIRED];
        private int side = 0;
        private final int[] rowPrice = new int[MOST_PAIRED];
        private final int[] columnPrice = new int[MOST_PAIRED + 1];
        private final int[] rowAt = new int[MOST_PAIRED + 1];
        private final int[] keptRowPrice = new int[MOST_PAIRED];
        private final int[] keptColumnPrice = new int[MOST_PAIRED + 1];
        private final int[] keptRowAt = new int[MOST_PAIRED + 1];
        private final int[] gap = new int[MOST_PAIRED + 1];
        private final int[] cameFrom = new int[MOST_PAIRED + 1];
        private final boolean[] reached = new boolean[MOST_PAIRED + 1];
        private final boolean[] settled = new boolean[MOST_PAIRED];

        void clear(int newSide) {
            side = newSide;
            for (int r = 0; r < side; r++) {
                Arrays.fill(worth[r], 0);
                settled[r] = false;
            }
            Arrays.fill(rowPrice, 0);
            Arrays.fill(columnPrice, 0);
            Arrays.fill(rowAt, NONE);
        }

        void seatAll() {
            for (int r = 0; r < side; r++) {
                seat(r);
            }
        }

        int total() {
            int sum = 0;
            for (int c = 0; c < side; c++) {
                if (rowAt[c] != NONE) {
                    sum += worth[rowAt[c]][c];
                }
            }
            return sum;
        }

        int columnOf(int row) {
            for (int c = 0; c < side; c++) {
                if (rowAt[c] == row) {
                    return c;
                }
            }
            return 0;
        }

        /** Brings one more row in, by the chain of moves that costs the least, up to a free column. */
        private void seat(int row) {
            clearSearch();
            // the row waits at a column that no table has, one behind the last
            int column = side;
            rowAt[side] = row;
            for (int step = 0; step <= side && rowAt[column] != NONE; step++) {
                reached[column] = true;
                column = nextColumn(column);
            }
            for (int step = 0; step <= side && column != side; step++) {
                int from = cameFrom[column];
                rowAt[column] = rowAt[from];
                column = from;
            }
            rowAt[side] = NONE;
        }

        private void clearSearch() {
            for (int c = 0; c <= side; c++) {
                gap[c] = FAR;
                cameFrom[c] = side;
                reached[c] = false;
            }
        }

        /** The column nearest to all that were reached, the prices being changed so that the way to it is tight. */
        private int nextColumn(int column) {
            int row = rowAt[column];
            int nearest = side;
            int least = FAR;
            for (int c = 0; c < side; c++) {
                if (!reached[c]) {
                    int direct = rowPrice[row] + columnPrice[c] - worth[row][c];
                    if (direct < gap[c]) {
                        gap[c] = direct;
                        cameFrom[c] = column;
                    }
                    if (gap[c] < least) {
                        least = gap[c];
                        nearest = c;
                    }
                }
            }
            for (int c = 0; c <= side; c++) {
                if (reached[c]) {
                    rowPrice[rowAt[c]] -= least;
                    columnPrice[c] += least;
                } else {
                    gap[c] -= least;
                }
            }
            return nearest;
        }

        /** Among the seatings of the greatest sum: the first row gets its least column, then the second, and so on. */
        void favourFirst() {
            for (int r = 0; r < side; r++) {
                settle(r);
            }
        }

        private void settle(int row) {
            for (int c = 0; c < side; c++) {
                if (!settled[c] && worth[row][c] > 0 && isTight(row, c) && canSit(row, c)) {
                    settled[c] = true;
                    return;
                }
            }
        }

        private boolean isTight(int row, int column) {
            return rowPrice[row] + columnPrice[column] == worth[row][column];
        }

        /** Seats a row at a column if those who sit there can be seated elsewhere, all seats tight. */
        private boolean canSit(int row, int column) {
            int other = rowAt[column];
            if (other == row) {
                return true;
            }
            int left = columnOf(row);
            clearSearch();
            reached[column] = true;
            rowAt[left] = NONE;
            rowAt[column] = row;
            if (other == NONE || moves(other, 0)) {
                return true;
            }
            rowAt[left] = row;
            rowAt[column] = other;
            return false;
        }

        private boolean moves(int row, int depth) {
            if (depth >= MOST_PAIRED) {
                return false;
            }
            for (int c = 0; c < side; c++) {
                if (!reached[c] && !settled[c] && isTight(row, c)) {
                    reached[c] = true;
                    if (rowAt[c] == NONE || moves(rowAt[c], depth + 1)) {
                        rowAt[c] = row;
                        return true;
                    }
                }
            }
            return false;
        }

        void keep() {
            System.arraycopy(rowPrice, 0, keptRowPrice, 0, MOST_PAIRED);
            System.arraycopy(columnPrice, 0, keptColumnPrice, 0, MOST_PAIRED + 1);
            System.arraycopy(rowAt, 0, keptRowAt, 0, MOST_PAIRED + 1);
        }

        private void restore() {
            System.arraycopy(keptRowPrice, 0, rowPrice, 0, MOST_PAIRED);
            System.arraycopy(keptColumnPrice, 0, columnPrice, 0, MOST_PAIRED + 1);
            System.arraycopy(keptRowAt, 0, rowAt, 0, MOST_PAIRED + 1);
        }

        /** The greatest sum if a row and a column, seated together in what was kept, are no pair. */
        int totalWithout(int row, int column) {
            int had = worth[row][column];
            worth[row][column] = 0;
            rowAt[column] = NONE;
            seat(row);
            int sum = total();
            worth[row][column] = had;
            restore();
            return sum;
        }
    }

    /** The SETS of a line, in their order, as they were when they were asked for. */
    private static final class Sets {
        private static final int NUMBER_BITS = 7;
        private static final int NUMBER_MASK = 127;
        private static final int SIZE_SHIFT = 28;

        /** A set in a number: above its size, below its lines, the first one highest. */
        private final int[] packed = new int[MOST_SETS];
        private final int[] number = new int[MOST_LINES];
        private final int[] amount = new int[MOST_LINES];
        private final int[] leastFrom = new int[MOST_LINES];
        private final int[] mostFrom = new int[MOST_LINES];
        private int candidates = 0;
        private int target = 0;
        private int slack = 0;
        private int wanted = 0;
        int many = 0;
        int book = 0;
        int line = 0;
        int asOf = NONE;

        void gather(Line of, Book other, int span) {
            book = of.book;
            line = of.number;
            target = of.amount;
            candidates = 0;
            for (int i = 0; i < other.used; i++) {
                Line candidate = other.lines[i];
                if (candidate.isBreak() && Math.abs(candidate.day - of.day) <= span) {
                    number[candidates] = i;
                    amount[candidates] = candidate.amount;
                    candidates++;
                }
            }
            boundAmounts();
        }

        private void boundAmounts() {
            for (int c = candidates - 1; c >= 0; c--) {
                boolean isLast = c == candidates - 1;
                leastFrom[c] = isLast ? amount[c] : Math.min(amount[c], leastFrom[c + 1]);
                mostFrom[c] = isLast ? amount[c] : Math.max(amount[c], mostFrom[c + 1]);
            }
        }

        void find(int most, int offBy) {
            many = 0;
            slack = offBy;
            for (int size = 1; size <= most; size++) {
                wanted = size;
                extend(0, size, target, 0);
            }
        }

        private void extend(int from, int left, int rest, int lines) {
            if (left <= 1) {
                finish(from, rest, lines);
                return;
            }
            for (int c = from; c + left <= candidates && many < MOST_SETS && canReach(c, left, rest); c++) {
                extend(c + 1, left - 1, rest - amount[c], lines << NUMBER_BITS | number[c]);
            }
        }

        /** Whether candidates from one on could come near to the rest; if not, neither could fewer of them. */
        private boolean canReach(int from, int left, int rest) {
            return left * leastFrom[from] - slack <= rest && left * mostFrom[from] + slack >= rest;
        }

        private void finish(int from, int rest, int lines) {
            for (int c = from; c < candidates && many < MOST_SETS; c++) {
                if (Math.abs(rest - amount[c]) <= slack) {
                    packed[many] = wanted << SIZE_SHIFT | lines << NUMBER_BITS | number[c];
                    many++;
                }
            }
        }

        boolean isThere(int k) {
            return k >= 0 && k < many;
        }

        int sizeOf(int k) {
            return packed[k] >> SIZE_SHIFT;
        }

        int lineIn(int k, int j) {
            return packed[k] >> NUMBER_BITS * (sizeOf(k) - 1 - j) & NUMBER_MASK;
        }
    }

    /**
     * What the difference of the books is explained by. A thing has a price: a great unit, less a bit that is
     * higher the earlier the thing stands. So the cheapest set is the one of the fewest things, and among these
     * the one that has the earliest where they differ; and its price tells which things are in it.
     */
    private static final class Explanation {
        private static final int UNIT = 1 << MOST_EXPLAINED;

        private final int[] kind = new int[MOST_EXPLAINED];
        private final int[] number = new int[MOST_EXPLAINED];
        private final int[] amount = new int[MOST_EXPLAINED];
        private final Sums early = new Sums();
        private final Sums late = new Sums();
        private final Sums spare = new Sums();
        private int things = 0;
        final int[] chosenKind = new int[MOST_EXPLAINED];
        final int[] chosenNumber = new int[MOST_EXPLAINED];
        int many = 0;

        void start() {
            things = 0;
        }

        void addBreaks(Book book, int sign) {
            for (int i = 0; i < book.used; i++) {
                if (book.lines[i].isBreak()) {
                    add(book.lines[i].book, i, sign * book.lines[i].amount);
                }
            }
        }

        void add(int kind, int number, int amount) {
            if (things < MOST_EXPLAINED) {
                this.kind[things] = kind;
                this.number[things] = number;
                this.amount[things] = amount;
                things++;
            }
        }

        boolean find(int difference) {
            int middle = things / 2;
            early.start();
            late.start();
            for (int t = 0; t < things; t++) {
                Sums half = t < middle ? early : late;
                spare.copy(half);
                half.merge(spare, amount[t], UNIT - bitOf(t));
            }
            int price = early.cheapestWith(late, difference);
            choose(price);
            return price != NONE;
        }

        private static int bitOf(int thing) {
            return 1 << MOST_EXPLAINED - 1 - thing;
        }

        private void choose(int price) {
            int bits = price == NONE ? 0 : -price & UNIT - 1;
            many = 0;
            for (int t = 0; t < things; t++) {
                if ((bits & bitOf(t)) != 0) {
                    chosenKind[many] = kind[t];
                    chosenNumber[many] = number[t];
                    many++;
                }
            }
        }
    }

    /** All sums that some things can have together, rising, each with the price of its cheapest set. */
    private static final class Sums {
        private static final int MOST_SUMS = 1 << MOST_EXPLAINED / 2;
        /** Greater than all sums and prices. */
        private static final int BEYOND = 1000000000;

        private final int[] sums = new int[MOST_SUMS];
        private final int[] prices = new int[MOST_SUMS];
        private int used = 0;

        void start() {
            sums[0] = 0;
            prices[0] = 0;
            used = 1;
        }

        void copy(Sums other) {
            System.arraycopy(other.sums, 0, sums, 0, other.used);
            System.arraycopy(other.prices, 0, prices, 0, other.used);
            used = other.used;
        }

        /** The old sums with one thing more: each of them without it and with it, of two like ones the cheaper. */
        void merge(Sums old, int amount, int price) {
            int without = 0;
            int with = 0;
            for (used = 0; used < MOST_SUMS && (without < old.used || with < old.used); used++) {
                int plain = without < old.used ? old.sums[without] : BEYOND;
                int raised = with < old.used ? old.sums[with] + amount : BEYOND;
                sums[used] = Math.min(plain, raised);
                prices[used] = BEYOND;
                if (plain == sums[used]) {
                    prices[used] = old.prices[without];
                    without++;
                }
                if (raised == sums[used]) {
                    prices[used] = Math.min(prices[used], old.prices[with] + price);
                    with++;
                }
            }
        }

        int cheapestWith(Sums other, int goal) {
            int cheapest = NONE;
            int mine = 0;
            int theirs = other.used - 1;
            while (mine < used && theirs >= 0) {
                int sum = sums[mine] + other.sums[theirs];
                if (sum == goal) {
                    int price = prices[mine] + other.prices[theirs];
                    cheapest = cheapest == NONE ? price : Math.min(cheapest, price);
                }
                if (sum <= goal) {
                    mine++;
                } else {
                    theirs--;
                }
            }
            return cheapest;
        }
    }
}
