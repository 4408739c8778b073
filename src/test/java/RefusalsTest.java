/**
 * "What is refused changes nothing": each refusal of each call, on a desk that has something to lose. And the other
 * way round: asking leaves the PAIRING and the SETS as they are, and all that is done ends them.
 */
public final class RefusalsTest extends DueAnswers {

    /**
     * A desk with all there is: GROUPS that are PARTED (0), LOCKED (1), joined (2), made by sets (3) and by pairing
     * (4); lines of three days; 8 acts that can be undone; an explanation, SETS and a PAIRING that can be asked for.
     */
    private static TwoBooks busy() {
        TwoBooks x = desk(of(10, 20, 30), of(10, 20, 30));
        x.hand(0, 0);
        x.hand(1, 1);
        x.lock(1, 1);
        x.today(3);
        x.part(0);
        put(put(x, 0, 40, 50), 1, 25, 25, 41);
        x.hand(2, 2);
        x.join(2, 1, 5);
        x.today(7);
        x.terms(6, 20);
        x.sets(0, 4, 2, 0);
        x.set(0);
        x.line(0, 70, 10004, 2);
        x.line(1, 70, 10004, 2);
        x.best();
        x.pair(160);
        x.line(0, 90, 0, 1);
        x.line(0, 95, 0, 3);
        x.line(1, 92, 0, 1);
        x.line(1, 99, 0, 5);
        return asked(x, 6, 20);
    }

    /** An explanation, the SETS of a line of book 0 by twos, and a PAIRING: the questions whose answers last. */
    private static TwoBooks asked(TwoBooks x, int line, int e) {
        x.explain();
        x.sets(0, line, 2, e);
        x.best();
        return x;
    }

    /** The busy desk on the day after: nothing can be undone. */
    private static TwoBooks ended() {
        TwoBooks x = busy();
        x.today(8);
        return asked(x, 6, 20);
    }

    /** A desk on which so many GROUPS were made. */
    private static TwoBooks crowded(int groups) {
        return asked(made(groups), 3, 2);
    }

    /** A GROUP of eight, and a BREAK in each book. */
    private static TwoBooks eight() {
        TwoBooks x = desk(of(1, 2, 3, 4, 5), of(1, 2, 3, 4, 5));
        x.hand(0, 0);
        for (int i = 1; i < 4; i++) {
            x.join(0, 0, i);
            x.join(0, 1, i);
        }
        return asked(x, 4, 0);
    }

    /** 80 lines in a book and four in the other. */
    private static TwoBooks fullBook(int book) {
        TwoBooks x = many(many(new TwoBooks(), book, 80, 5), 1 - book, 4, 5);
        x.hand(0, 0);
        return asked(x, 1, 0);
    }

    /** So many BREAKS, and an explanation from when they were only three. */
    private static TwoBooks big(int first, int second) {
        TwoBooks x = desk(of(3, 4), of(5));
        x.explain();
        many(many(x, 0, first - 2, 9), 1, second - 1, 9);
        x.sets(0, 1, 2, 5);
        return x;
    }

    private static void refused(String name, Twins.Past past, Twins.Call call, long want) {
        Twins.changesNothing(name, past, call, want);
    }

    private static void onBusy(String name, Twins.Call call, long want) {
        refused(name, RefusalsTest::busy, call, want);
    }

    /** If these desks were poor, then what is refused would have nothing on them to change. */
    private static void theDesks() {
        by("the desks of this test");
        TwoBooks x = busy();
        int[] counts = {8, 9, 5, 4, 8, 7};
        for (int what = 0; what < 6; what++) due("count(" + what + ")", x.count(what), counts[what]);
        int[] sorts = {HAND, HAND, HAND, SET, BEST};
        for (int g = 0; g < 5; g++) due("SORT of " + g, x.group(g, 0), sorts[g]);
        int[] partners = {0, -1, -1, -1, -1, -1, 7, 8};
        int[] rivals = {-150, 1, 1, 1, 1, 1, -30, -30};
        for (int a = 0; a < 8; a++) due("with(" + a + ")", x.with(a), partners[a]);
        for (int a = 0; a < 8; a++) due("rival(" + a + ")", x.rival(a), rivals[a]);
        for (int k = 0; k < 5; k++) due("size(" + k + ")", x.size(k), k < 2 ? 1 : k < 4 ? 2 : NONE);
        int[] kinds = {0, 1, 1, NONE}, numbers = {7, 0, 7, NONE};
        for (int j = 0; j < 4; j++) due("explained(" + j + ", 0)", x.explained(j, 0), kinds[j]);
        for (int j = 0; j < 4; j++) due("explained(" + j + ", 1)", x.explained(j, 1), numbers[j]);
        due("pairs", x.pair(0), 3);
        due("acts on the day after", ended().count(4), 0);
        due("pairs on the day after", ended().pair(0), 3);
        due("GROUPS on the crowded one", crowded(200).count(2), 200);
        due("SETS on the crowded one", crowded(200).size(4), 1);
        due("LINES of the GROUP of eight", eight().group(0, 1), 8);
        due("SETS there", eight().size(0), 1);
        due("lines of the full book", fullBook(1).count(1), 80);
        due("explained on the big one", big(15, 14).explained(0, 1), 0);
        due("SETS on the big one", big(15, 14).size(1), 1);
    }

    private static void lines() {
        sentence("A LINE comes to a book: its number. DAY and MARK come as one number: 10000 times the DAY and the MARK. NONE, FULL.");
        for (int book : of(-1, 2, LOW, HIGH)) onBusy("line to book " + book, x -> x.line(book, 5, 5, 5), NONE);
        for (int amount : of(-1000001, 0, 1000001, LOW, HIGH)) onBusy("line of " + amount, x -> x.line(0, amount, 5, 5), NONE);
        for (int dayMark : of(-1, 100000000, LOW, HIGH)) onBusy("line of day " + dayMark, x -> x.line(1, 5, dayMark, 5), NONE);
        for (int word : of(-1, 100, LOW, HIGH)) onBusy("line of word " + word, x -> x.line(1, 5, 5, word), NONE);
        for (int book : of(0, 1)) {
            refused("the 81st line", () -> fullBook(book), x -> x.line(book, 6, 5, 5), FULL);
            refused("the 81st line, and of no coins", () -> fullBook(book), x -> x.line(book, 0, 5, 5), NONE);
        }
    }

    private static void daysAndTerms() {
        sentence("TODAY becomes d, not less than it was (up to 99999): what it was. NONE.");
        for (int d : of(-1, 0, 6, 100000, LOW, HIGH)) onBusy("today(" + d + ")", x -> x.today(d), NONE);
        sentence("SPAN and COINS: 1. NONE.");
        for (int span : of(-1, 100, LOW, HIGH)) onBusy("span " + span, x -> x.terms(span, 3), NONE);
        for (int coins : of(-1, 10001, LOW, HIGH)) onBusy("coins " + coins, x -> x.terms(3, coins), NONE);
    }

    private static void pairing() {
        sentence("BIG: more than 14 BREAKS in a book.");
        refused("best() of 15 and 14", () -> big(15, 14), x -> x.best(), BIG);
        refused("best() of 14 and 15", () -> big(14, 15), x -> x.best(), BIG);
        sentence("NONE: sure, or there is no such PAIRING. FULL: 200 GROUPS were made, or would be more.");
        for (int sure : of(-1, 1001, LOW, HIGH)) onBusy("pair(" + sure + ")", x -> x.pair(sure), NONE);
        refused("pair(0) before best()", () -> desk(of(5), of(5)), x -> x.pair(0), NONE);
        refused("pair(0) behind a line", () -> put(busy(), 0, 5), x -> x.pair(0), NONE);
        refused("pair(0) of 14, 187 made", () -> crowded(187), x -> x.pair(0), FULL);
        refused("pair(0) of 14, 200 made", () -> crowded(200), x -> x.pair(0), FULL);
    }

    private static void sets() {
        sentence("NONE: no such LINE; m, e are not as said; TAKEN.");
        for (int book : of(-1, 2, LOW, HIGH)) onBusy("sets of book " + book, x -> x.sets(book, 3, 2, 5), NONE);
        for (int i : of(-1, 8, 80, LOW, HIGH)) onBusy("sets of line " + i, x -> x.sets(0, i, 2, 5), NONE);
        for (int i : of(-1, 9, 80, LOW, HIGH)) onBusy("sets of line " + i + " of book 1", x -> x.sets(1, i, 2, 5), NONE);
        for (int m : of(-1, 0, 5, LOW, HIGH)) onBusy("sets, m " + m, x -> x.sets(0, 3, m, 5), NONE);
        for (int e : of(-1, 10001, LOW, HIGH)) onBusy("sets, e " + e, x -> x.sets(0, 3, 2, e), NONE);
        onBusy("sets of one that is TAKEN", x -> x.sets(0, 1, 2, 5), TAKEN);
        onBusy("sets of one that is TAKEN in book 1", x -> x.sets(1, 1, 2, 5), TAKEN);
        sentence("NONE: there is none such, or something but asking was done since sets(). FULL: 200 GROUPS were made.");
        for (int k : of(-1, 4, 4999, 5000, LOW, HIGH)) onBusy("set(" + k + ")", x -> x.set(k), NONE);
        refused("set(0) before sets()", () -> desk(of(5), of(5)), x -> x.set(0), NONE);
        refused("set(0) behind a line", () -> put(busy(), 0, 5), x -> x.set(0), NONE);
        refused("set(0), 200 made", () -> crowded(200), x -> x.set(0), FULL);
    }

    private static void hands() {
        sentence("A GROUP of SORT HAND of two LINES: its number. NONE, TAKEN, FULL.");
        for (int a : of(-1, 8, 80, LOW, HIGH)) onBusy("hand(" + a + ", 0)", x -> x.hand(a, 0), NONE);
        for (int b : of(-1, 9, 80, LOW, HIGH)) onBusy("hand(0, " + b + ")", x -> x.hand(0, b), NONE);
        onBusy("hand on one that is TAKEN", x -> x.hand(1, 0), TAKEN);
        onBusy("hand on one that is TAKEN in book 1", x -> x.hand(0, 1), TAKEN);
        refused("hand, 200 made", () -> crowded(200), x -> x.hand(2, 2), FULL);
    }

    private static void joins() {
        sentence("NONE, TAKEN, LOCKED (such a GROUP), FULL: it has 8.");
        for (int g : of(-1, 0, 5, 200, LOW, HIGH)) onBusy("join to " + g, x -> x.join(g, 0, 0), NONE);
        for (int book : of(-1, 2, LOW, HIGH)) onBusy("join of book " + book, x -> x.join(2, book, 0), NONE);
        for (int i : of(-1, 8, LOW, HIGH)) onBusy("join of line " + i, x -> x.join(2, 0, i), NONE);
        for (int i : of(-1, 9, LOW, HIGH)) onBusy("join of line " + i + " of book 1", x -> x.join(2, 1, i), NONE);
        onBusy("join of one that is TAKEN", x -> x.join(3, 0, 1), TAKEN);
        onBusy("join of one of its own", x -> x.join(4, 0, 5), TAKEN);
        onBusy("join to a LOCKED one", x -> x.join(1, 0, 0), LOCKED);
        refused("join of a ninth", RefusalsTest::eight, x -> x.join(0, 0, 4), FULL);
        refused("join of a ninth of book 1", RefusalsTest::eight, x -> x.join(0, 1, 4), FULL);
    }

    private static void partsAndLocks() {
        sentence("A GROUP is PARTED: how many LINES are BREAKS then. NONE (also one that is PARTED), LOCKED.");
        for (int g : of(-1, 0, 5, 200, LOW, HIGH)) onBusy("part(" + g + ")", x -> x.part(g), NONE);
        onBusy("part of a LOCKED one", x -> x.part(1), LOCKED);
        sentence("A GROUP is LOCKED (1) or not (0): what it was. NONE (also one that is PARTED).");
        for (int g : of(-1, 0, 5, 200, LOW, HIGH)) {
            onBusy("lock(" + g + ", 0)", x -> x.lock(g, 0), NONE);
            onBusy("lock(" + g + ", 1)", x -> x.lock(g, 1), NONE);
        }
        for (int is : of(-1, 2, LOW, HIGH)) {
            onBusy("lock(1, " + is + ")", x -> x.lock(1, is), NONE);
            onBusy("lock(2, " + is + ")", x -> x.lock(2, is), NONE);
        }
    }

    private static void explanations() {
        sentence("BIG: more than 18 of these");
        refused("explain() of 14 and 5", () -> big(14, 5), x -> x.explain(), BIG);
        refused("explain() of 5 and 14", () -> big(5, 14), x -> x.explain(), BIG);
        refused("explain() of full books", () -> big(80, 80), x -> x.explain(), BIG);
    }

    private static void undoing() {
        sentence("The latest act that can be undone is: how many are left. NONE: there is none.");
        refused("undo() on the day after", RefusalsTest::ended, x -> x.undo(), NONE);
        refused("undo() of a new one", TwoBooks::new, x -> x.undo(), NONE);
    }

    private static void wrongQuestions() {
        sentence("What is refused changes nothing.");
        for (int wild : of(-1, 99, LOW, HIGH)) {
            onBusy("told of book " + wild, x -> x.told(wild, 0, 0), NO_LINE);
            onBusy("told of line " + wild, x -> x.told(0, wild, 0), NO_LINE);
            onBusy("told, what " + wild, x -> x.told(0, 0, wild), NO_LINE);
            onBusy("fit of line " + wild, x -> x.fit(wild, 0), NONE);
            onBusy("fit with line " + wild, x -> x.fit(0, wild), NONE);
            onBusy("with(" + wild + ")", x -> x.with(wild), NONE);
            onBusy("rival(" + wild + ")", x -> x.rival(wild), 1);
            onBusy("size(" + wild + ")", x -> x.size(wild), NONE);
            onBusy("in set " + wild, x -> x.in(wild, 0), NONE);
            onBusy("in a set, line " + wild, x -> x.in(0, wild), NONE);
            onBusy("group " + wild, x -> x.group(wild, 0), NO_GROUP);
            onBusy("group, what " + wild, x -> x.group(0, wild), NO_GROUP);
            onBusy("breaks of book " + wild, x -> x.breaks(wild, 0), NONE);
            onBusy("broken of book " + wild, x -> x.broken(wild, 0), NONE);
            onBusy("broken, the " + wild + "-th", x -> x.broken(0, wild), NONE);
            onBusy("sum(" + wild + ")", x -> x.sum(wild), 0);
            onBusy("as of day " + wild, x -> x.as(wild, 0), NO_DAY);
            onBusy("as, what " + wild, x -> x.as(0, wild), NO_DAY);
            onBusy("explained, the " + wild + "-th", x -> x.explained(wild, 0), NONE);
            onBusy("explained, what " + wild, x -> x.explained(0, wild), NONE);
            onBusy("count(" + wild + ")", x -> x.count(wild), NONE);
        }
        for (int age : of(-1, LOW)) onBusy("breaks aged " + age, x -> x.breaks(0, age), NONE);
    }

    /** best(), sets() and explain() are asked once more for what they told before. */
    private static void asking() {
        sentence("(It can be asked for as long as nothing is done but asking.)");
        onBusy("told", x -> x.told(0, 0, 0), 10);
        onBusy("fit", x -> x.fit(6, 7), 130);
        onBusy("best", x -> x.best(), 380);
        onBusy("with", x -> x.with(6), 7);
        onBusy("rival", x -> x.rival(6), -30);
        onBusy("sets", x -> x.sets(0, 6, 2, 20), 4);
        onBusy("size", x -> x.size(3), 2);
        onBusy("in", x -> x.in(3, 1), 8);
        onBusy("group", x -> x.group(1, 5), 1);
        onBusy("breaks", x -> x.breaks(0, 4), 2);
        onBusy("broken", x -> x.broken(0, 1), 3);
        long[] sums = {-7, 235, 201, -41};
        for (int what = 0; what < 4; what++) {
            int which = what;
            onBusy("sum(" + what + ")", x -> x.sum(which), sums[what]);
        }
        onBusy("as of the first day", x -> x.as(0, 2), 2);
        onBusy("as of today", x -> x.as(7, 2), 4);
        onBusy("explain", x -> x.explain(), 3);
        onBusy("explained", x -> x.explained(2, 1), 7);
        onBusy("count", x -> x.count(4), 8);
        onBusy("check", x -> x.check(), 0);
    }

    private static void ends(String name, Twins.Call call, long want) {
        TwoBooks x = busy();
        due(name, call.to(x), want);
        due("with(6) behind " + name, x.with(6), NONE);
        due("rival(6) behind " + name, x.rival(6), 1);
        due("pair(0) behind " + name, x.pair(0), NONE);
        due("set(3) behind " + name, x.set(3), NONE);
        due("size(3) behind " + name, x.size(3), 2);
        due("in(3, 1) behind " + name, x.in(3, 1), 8);
        due("explained(2, 1) behind " + name, x.explained(2, 1), 7);
        due("best() behind " + name, x.best() > 0 ? 1 : 0, 1);
        due("pair(1000) behind best()", x.pair(1000), 0);
    }

    private static void doing() {
        sentence("if nothing but asking was done since; NONE: none, or there is none such.");
        sentence("or something but asking was done since sets()");
        ends("line to book 0", x -> x.line(0, 5, 0, 0), 8);
        ends("line to book 1", x -> x.line(1, 5, 0, 0), 9);
        ends("today", x -> x.today(8), 7);
        ends("another SPAN", x -> x.terms(7, 20), 1);
        ends("other COINS", x -> x.terms(6, 21), 1);
        ends("pair", x -> x.pair(50), 1);
        ends("set", x -> x.set(0), 5);
        ends("hand", x -> x.hand(3, 0), 5);
        ends("join", x -> x.join(2, 0, 3), 4);
        ends("part", x -> x.part(2), 3);
        ends("lock", x -> x.lock(2, 1), 0);
        ends("unlock", x -> x.lock(1, 0), 1);
        ends("undo", x -> x.undo(), 7);
        ends("a line that is undone", x -> x.line(0, 5, 0, 0) + x.undo(), 8 + 8);
        ends("a day and then a line", x -> x.today(8) + x.line(0, 5, 0, 0), 7 + 8);
        ends("a line and then a day", x -> x.line(0, 5, 0, 0) + x.today(8), 8 + 7);
        ends("other terms and back again", x -> x.terms(7, 21) + x.terms(6, 20), 2);
    }

    /** A pair() that is refused leaves the PAIRING, so that a surer one can still be carried out. */
    private static void surerPair() {
        sentence("or would be more.");
        TwoBooks x = crowded(199);
        due("pair(0), 199 made", x.pair(0), FULL);
        due("pair(150) of one", x.pair(150), 1);
        due("GROUPS made", x.count(2), 200);
        due("its line", x.told(0, 0, 5), 199);
    }

    public static void main(String[] args) {
        theDesks();
        lines(); daysAndTerms(); pairing(); sets(); hands(); joins(); partsAndLocks(); explanations(); undoing();
        wrongQuestions(); asking(); doing(); surerPair();
        end("all that is refused changes nothing");
    }
}
