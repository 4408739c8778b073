/** For each promise of the document: ordinary inputs, the edges that it names, and wrong inputs. */
public final class PromisesTest extends DueAnswers {
    private static void newObject() {
        TwoBooks x = new TwoBooks();
        for (int what = 0; what <= 5; what++) due("count(" + what + ") of a new one", x.count(what), 0);
        for (int what = 0; what <= 3; what++) due("sum(" + what + ") of a new one", x.sum(what), 0);
        due("with of a new one", x.with(0), -1);
        due("rival of a new one", x.rival(0), 1);
        due("pair of a new one", x.pair(0), -1);
        due("size of a new one", x.size(0), -1);
        due("set of a new one", x.set(0), -1);
        due("explained of a new one", x.explained(0, 0), -1);
        due("undo of a new one", x.undo(), -1);
        due("best of a new one", x.best(), 0);
        due("explain of a new one", x.explain(), 0);
        due("as of a new one", x.as(0, 0), 0);
        due("check of a new one", x.check(), 0);
        // the terms at first: SPAN 5, COINS 0
        x.line(0, 100, 0, 1);
        x.line(1, 100, 50000, 2);
        x.line(1, 100, 60000, 2);
        x.line(1, 101, 0, 2);
        due("fit at SPAN 5", x.fit(0, 0), 90);
        due("fit beyond SPAN 5", x.fit(0, 1), 0);
        due("fit beyond COINS 0", x.fit(0, 2), 0);
    }

    private static void lines() {
        TwoBooks x = new TwoBooks();
        due("first line", x.line(0, 1000000, 99999999, 99), 0);
        due("second line", x.line(0, -1000000, 0, 0), 1);
        due("first of the other book", x.line(1, 1, 10001, 5), 0);
        for (int book : of(-1, 2, LOW, HIGH)) due("book " + book, x.line(book, 1, 0, 0), -1);
        for (int amount : of(0, 1000001, -1000001, LOW, HIGH)) due("amount " + amount, x.line(0, amount, 0, 0), -1);
        for (int dayMark : of(-1, 100000000, LOW, HIGH)) due("dayMark " + dayMark, x.line(0, 1, dayMark, 0), -1);
        for (int word : of(-1, 100, LOW, HIGH)) due("word " + word, x.line(0, 1, 0, word), -1);
        due("refused ones don't count", x.count(0), 2);
        due("refused ones are no acts", x.count(4), 3);
        for (int i = 2; i < 80; i++) due("line " + i, x.line(0, i, 0, 0), i);
        due("the 81st", x.line(0, 1, 0, 0), -5);
        due("NONE comes ahead of FULL", x.line(0, 0, 0, 0), -1);
        due("the other book has room", x.line(1, 1, 0, 0), 1);
    }

    private static void days() {
        TwoBooks x = new TwoBooks();
        due("today(0) at first", x.today(0), 0);
        due("today(7)", x.today(7), 0);
        due("today, less than it was", x.today(6), -1);
        due("today, the same", x.today(7), 7);
        due("today(99999)", x.today(99999), 7);
        due("today(100000)", x.today(100000), -1);
        due("today(-1)", x.today(-1), -1);
        due("today(LOW)", x.today(LOW), -1);
        due("today(HIGH)", x.today(HIGH), -1);
        due("TODAY", x.count(5), 99999);
    }

    private static void terms() {
        TwoBooks x = new TwoBooks();
        x.line(0, 10000, 0, 1);
        x.line(1, 20000, 990000, 2);
        due("no fit at first", x.fit(0, 0), 0);
        due("terms(99, 10000)", x.terms(99, 10000), 1);
        due("fit, least", x.fit(0, 0), 1);
        for (int span : of(-1, 100, LOW, HIGH)) due("span " + span, x.terms(span, 0), -1);
        for (int coins : of(-1, 10001, LOW, HIGH)) due("coins " + coins, x.terms(0, coins), -1);
        due("refused terms change nothing", x.fit(0, 0), 1);
        due("terms(98, 10000)", x.terms(98, 10000), 1);
        due("a day too far", x.fit(0, 0), 0);
        due("terms(99, 9999)", x.terms(99, 9999), 1);
        due("a coin too far", x.fit(0, 0), 0);
        due("terms(0, 0)", x.terms(0, 0), 1);
    }

    private static void told() {
        TwoBooks x = new TwoBooks();
        x.today(3);
        x.line(0, -250, 12340056, 78);
        x.line(1, 9, 9999, 0);
        x.today(10);
        int[] want = {-250, 1234, 78, 56, 3, -1, 7};
        for (int what = 0; what < 7; what++) due("told(0, 0, " + what + ")", x.told(0, 0, what), want[what]);
        due("day of dayMark 9999", x.told(1, 0, 1), 0);
        due("mark of dayMark 9999", x.told(1, 0, 3), 9999);
        x.hand(0, 0);
        due("its GROUP", x.told(0, 0, 5), 0);
        due("no AGE in a GROUP", x.told(0, 0, 6), -1);
        x.part(0);
        due("a BREAK again", x.told(0, 0, 5), -1);
        due("an AGE again", x.told(0, 0, 6), 7);
        for (int what : of(-1, 7, LOW, HIGH)) due("told what " + what, x.told(0, 0, what), -2000000);
        for (int book : of(-1, 2, LOW, HIGH)) due("told book " + book, x.told(book, 0, 0), -2000000);
        for (int i : of(-1, 1, 80, LOW, HIGH)) due("told line " + i, x.told(0, i, 0), -2000000);
    }

    private static void fits() {
        TwoBooks x = new TwoBooks();
        x.terms(10, 1000);
        x.line(0, 5000, 100000, 1);
        x.line(0, 5000, 100007, 1);
        x.line(1, 5000, 100000, 2);
        x.line(1, 5000, 100007, 2);
        x.line(1, 5000, 100008, 2);
        x.line(1, 5000, 130000, 1);
        x.line(1, 5199, 70007, 3);
        x.line(1, 4000, 0, 3);
        due("nothing apart", x.fit(0, 0), 100);
        due("one has a MARK", x.fit(0, 1), 100);
        due("the other has a MARK", x.fit(1, 0), 100);
        due("one MARK", x.fit(1, 1), 150);
        due("two MARKS", x.fit(1, 2), 0);
        due("one WORD, three days", x.fit(0, 3), 124);
        due("one MARK, three days earlier, 199 coins", x.fit(1, 4), 143);
        due("ten days, 1000 coins", x.fit(0, 5), 70);
        for (int a : of(-1, 2, LOW, HIGH)) due("fit of line " + a, x.fit(a, 0), -1);
        for (int b : of(-1, 6, LOW, HIGH)) due("fit with line " + b, x.fit(0, b), -1);
    }

    private static void learning() {
        TwoBooks x = new TwoBooks();
        for (int i = 0; i < 9; i++) {
            x.line(0, 100, 0, 1);
            x.line(1, 100, 0, 2);
        }
        for (int i = 0; i < 7; i++) {
            due("fit after " + i + " hands", x.fit(8, 8), 100 + 10 * Math.min(5, i));
            due("hand " + i, x.hand(i, i), i);
        }
        for (int i = 6; i >= 0; i--) {
            x.part(i);
            due("fit after a part, " + i + " left", x.fit(8, 8), 100 + 10 * Math.min(5, i));
        }
        // a GROUP counts once, however many of its lines have the word
        due("hand", x.hand(0, 0), 7);
        x.join(7, 0, 1);
        x.join(7, 1, 1);
        due("a GROUP counts once", x.fit(8, 8), 110);
        due("also for lines in GROUPS", x.fit(0, 0), 110);
        x.part(7);
        // the machine's own pairs are not learnt from, until a hand joins one
        x.line(0, 777, 0, 50);
        x.line(1, 777, 0, 51);
        due("sets", x.sets(0, 9, 1, 0), 1);
        due("set", x.set(0), 8);
        due("a SET is not learnt from", x.fit(9, 9), 100);
        x.join(8, 1, 0);
        due("a joined one is", x.fit(9, 9), 110);
        due("by the joined line's word too", x.fit(9, 1), 0);
        x.undo();
        due("not when the join is undone", x.fit(9, 9), 100);
    }

    private static void best() {
        TwoBooks x = desk(of(100, 100), of(100, 100, 100));
        due("worth", x.best(), 260);
        due("of like ones the first", x.with(0), 0);
        due("of like ones the second", x.with(1), 1);
        // the greatest sum, not the greatest first fit
        x = new TwoBooks();
        x.line(0, 100, 0, 1);
        x.line(0, 100, 0, 2);
        x.line(1, 100, 0, 1);
        x.line(1, 100, 80000, 1);
        x.terms(9, 0);
        // fits: 130 and 114 of line 0, 100 and 84 of line 1
        due("the greatest sum", x.best(), 214);
        due("first of two like sums", x.with(0), 0);
        due("and its second", x.with(1), 1);
        // line 0 goes without, so that line 1 may have the one that fits better
        x = new TwoBooks();
        x.line(0, 100, 0, 1);
        x.line(0, 100, 0, 2);
        x.line(1, 100, 0, 2);
        due("one goes without", x.best(), 130);
        due("with of the one without", x.with(0), -1);
        due("with of the other", x.with(1), 0);
        // none counts as greater than all
        x = desk(of(100, 100), of(100));
        due("only one can be paired", x.best(), 130);
        due("the lesser line is", x.with(0), 0);
        due("the greater is not", x.with(1), -1);
        due("no fits at all", desk(of(1), of(2)).best(), 0);
        due("an empty book", desk(of(1), of()).best(), 0);
    }

    private static void bestAtItsLimit() {
        TwoBooks x = new TwoBooks();
        for (int i = 0; i < 14; i++) {
            x.line(0, 100, 0, i);
            x.line(1, 100, 0, 13 - i);
        }
        due("14 and 14", x.best(), 14 * 130);
        for (int a = 0; a < 14; a++) {
            due("with(" + a + ")", x.with(a), 13 - a);
            due("rival(" + a + ")", x.rival(a), -60);
        }
        x.line(1, 5, 0, 0);
        due("15 of book 1", x.best(), -4);
        x.hand(0, 0);
        due("14 of book 1, 13 of book 0", x.best(), 12 * 130 + 100);
        x.part(0);
        x.undo();
        x.undo();
        x.undo();
        x.line(0, 5, 0, 0);
        due("15 of book 0", x.best(), -4);
    }

    private static void fresh() {
        TwoBooks x = desk(of(100, 300), of(100, 300));
        x.hand(1, 1);
        // a HAND of the same words is there: 10 more
        due("best", x.best(), 140);
        askAll(x);
        due("after asking", x.with(0), 0);
        refuseAll(x);
        due("after what is refused", x.with(0), 0);
        due("rival after what is refused", x.rival(0), -140);
        x.line(0, 1, 0, 0);
        due("after line", x.with(0), -1);
        due("rival after line", x.rival(0), 1);
        due("pair after line", x.pair(0), -1);
        x.best();
        x.undo();
        due("after undo", x.with(0), -1);
        x.best();
        x.lock(0, 1);
        due("after lock", x.with(0), -1);
        x.lock(0, 0);
        x.best();
        x.join(0, 1, 0);
        due("after join", x.with(0), -1);
        x.undo();
        x.best();
        x.part(0);
        due("after part", x.with(0), -1);
        x.best();
        x.hand(1, 1);
        due("after hand", x.with(0), -1);
        x.best();
        x.terms(6, 0);
        due("after terms", x.with(0), -1);
        x.best();
        x.today(1);
        due("after today", x.with(0), -1);
        x.best();
        x.sets(0, 0, 1, 0);
        due("after sets", x.with(0), 0);
        x.set(0);
        due("after set", x.with(0), -1);
    }

    private static void askAll(TwoBooks x) {
        x.told(0, 0, 0);
        x.fit(0, 0);
        x.rival(0);
        x.sets(0, 0, 1, 0);
        x.size(0);
        x.in(0, 0);
        x.group(0, 0);
        x.breaks(0, 0);
        x.broken(0, 0);
        x.sum(0);
        x.as(0, 0);
        x.explain();
        x.explained(0, 0);
        x.count(0);
        x.check();
    }

    private static void refuseAll(TwoBooks x) {
        x.line(0, 0, 0, 0);
        x.today(-1);
        x.terms(-1, 0);
        x.pair(-1);
        x.set(-1);
        x.hand(-1, 0);
        x.hand(0, 1);
        x.join(0, 0, 1);
        x.join(9, 0, 0);
        x.part(9);
        x.lock(0, 2);
    }

    private static void with() {
        TwoBooks x = desk(of(7, 100, 8), of(9, 9, 100));
        x.best();
        due("no pair", x.with(0), -1);
        due("a pair", x.with(1), 2);
        for (int a : of(-1, 3, 80, LOW, HIGH)) due("with(" + a + ")", x.with(a), -1);
        x.hand(0, 0);
        x.best();
        due("numbers of lines, not of breaks", x.with(1), 2);
        due("a line in a GROUP", x.with(0), -1);
    }

    private static void rivals() {
        TwoBooks x = desk(of(100), of(100));
        x.best();
        due("no other pairing", x.rival(0), -130);
        x = desk(of(100), of(100, 100));
        x.best();
        due("another as good", x.rival(0), 0);
        x = new TwoBooks();
        x.line(0, 100, 0, 1);
        x.line(1, 100, 0, 1);
        x.line(1, 100, 20000, 2);
        x.line(0, 5, 0, 0);
        x.best();
        due("another less good", x.rival(0), -34);
        due("no pair", x.rival(1), 1);
        for (int a : of(-1, 2, LOW, HIGH)) due("rival(" + a + ")", x.rival(a), 1);
    }

    private static void pairs() {
        TwoBooks x = desk(of(100, 200, 200), of(100, 200, 200));
        due("best", x.best(), 390);
        for (int sure : of(-1, 1001, LOW, HIGH)) due("pair(" + sure + ")", x.pair(sure), -1);
        due("pair(131)", x.pair(131), 0);
        due("pair(130)", x.pair(130), 1);
        due("no such PAIRING any more", x.pair(0), -1);
        due("its SORT", x.group(0, 0), BEST);
        due("its line of book 0", x.told(0, 0, 5), 0);
        due("its line of book 1", x.told(1, 0, 5), 0);
        due("best of the rest", x.best(), 260);
        due("pair(0)", x.pair(0), 2);
        due("lines of book 0 rising", x.told(0, 1, 5), 1);
        due("lines of book 0 rising", x.told(0, 2, 5), 2);
        due("one act for each", x.count(4), 9);
        due("undo of one", x.undo(), 8);
        due("only one is undone", x.count(3), 2);
        due("pair(1000) of none", x.best() == 130 ? x.pair(1000) : -9, 0);
    }

    private static void groupsFull() {
        TwoBooks x = desk(of(1, 2, 3), of(1, 2, 3));
        for (int i = 0; i < 198; i++) {
            due("hand " + i, x.hand(0, 0), i);
            x.part(i);
        }
        due("best", x.best(), 390);
        due("pair of three, two left", x.pair(0), -5);
        due("nothing was made", x.count(2), 198);
        due("NONE comes ahead of FULL", x.pair(-1), -1);
        due("hand", x.hand(0, 0), 198);
        due("best of two, one hand learnt", x.best(), 280);
        due("pair of two, one left", x.pair(0), -5);
        due("the 200th", x.hand(1, 1), 199);
        due("the 201st", x.hand(2, 2), -5);
        due("TAKEN comes ahead of FULL", x.hand(0, 2), -2);
        due("NONE comes ahead of FULL", x.hand(3, 2), -1);
        due("best of one, two hands learnt", x.best(), 150);
        due("pair of one", x.pair(0), -5);
        due("sets", x.sets(0, 2, 1, 0), 1);
        due("set", x.set(0), -5);
        due("NONE comes ahead of FULL", x.set(1), -1);
        due("undo gives a number anew", x.undo() >= 0 ? x.hand(2, 2) : -9, 199);
    }

    private static void pairsUpToFull() {
        TwoBooks x = desk(of(1, 2), of(1, 2));
        for (int i = 0; i < 198; i++) {
            x.hand(0, 0);
            x.part(i);
        }
        due("best", x.best(), 260);
        due("the last two", x.pair(0), 2);
        due("GROUPS made", x.count(2), 200);
        due("best of none", x.best(), 0);
        due("none, but 200 were made", x.pair(0), -5);
    }

    private static void sets() {
        TwoBooks x = desk(of(30), of(10, 20, 30, -10, 40));
        due("m 1", x.sets(0, 0, 1, 0), 1);
        due("m 2", x.sets(0, 0, 2, 0), 3);
        due("size of the first", x.size(0), 1);
        due("in the first", x.in(0, 0), 2);
        due("second", x.in(1, 0) * 10 + x.in(1, 1), 1);
        due("third", x.in(2, 0) * 10 + x.in(2, 1), 34);
        due("m 3", x.sets(0, 0, 3, 0), 4);
        due("fourth", x.in(3, 0) * 100 + x.in(3, 1) * 10 + x.in(3, 2), 23);
        due("off by 10", x.sets(0, 0, 1, 10), 3);
        due("off by 9", x.sets(0, 0, 1, 9), 1);
        due("of book 1", x.sets(1, 1, 4, 10), 1);
        for (int m : of(0, 5, -1, LOW, HIGH)) due("m " + m, x.sets(0, 0, m, 0), -1);
        for (int e : of(-1, 10001, LOW, HIGH)) due("e " + e, x.sets(0, 0, 1, e), -1);
        for (int i : of(-1, 1, 80, LOW, HIGH)) due("line " + i, x.sets(0, i, 1, 0), -1);
        for (int book : of(-1, 2, LOW, HIGH)) due("book " + book, x.sets(book, 0, 1, 0), -1);
        due("what was refused left the latest ones", x.size(0), 1);
        x.hand(0, 0);
        due("TAKEN", x.sets(0, 0, 1, 0), -2);
        due("NONE comes ahead of TAKEN", x.sets(0, 0, 0, 0), -1);
        due("lines in GROUPS are no part of SETS", x.sets(1, 1, 4, 10000), 0);
        due("none to tell", x.size(0), -1);
    }

    private static void setsByDays() {
        TwoBooks x = new TwoBooks();
        x.line(0, 30, 100000, 0);
        for (int day = 4; day <= 16; day++) x.line(1, 30, day * 10000, 0);
        due("at most SPAN apart", x.sets(0, 0, 1, 0), 11);
        due("the first", x.in(0, 0), 1);
        due("the last", x.in(10, 0), 11);
        x.terms(0, 0);
        due("of one day", x.sets(0, 0, 1, 0), 1);
        due("MARKS and WORDS don't matter", x.line(1, 30, 100009, 77) >= 0 ? x.sets(0, 0, 1, 0) : -9, 2);
    }

    private static void setsAtTheirLimit() {
        TwoBooks x = new TwoBooks();
        x.line(0, 40, 0, 0);
        for (int i = 0; i < 80; i++) x.line(1, 10, 0, 0);
        due("at most 5000", x.sets(0, 0, 4, 0), 5000);
        due("the 5000th", x.size(4999), 4);
        due("the first of four", x.in(0, 3), 3);
        due("no 5001st", x.size(5000), -1);
        // {0,1,c,d}: 3003 of them; {0,2,c,d} with c from 3 to 35: 1980; then the 17th of {0,2,36,d}
        due("the 5000th's lines", x.in(4999, 0) * 1000000 + x.in(4999, 1) * 10000 + x.in(4999, 2) * 100 + x.in(4999, 3), 23653);
        due("set of the 5000th", x.set(4999), 0);
        due("its lines", x.group(0, 1), 5);
        due("one of them", x.told(1, 53, 5), 0);
    }

    private static void sizes() {
        TwoBooks x = desk(of(30), of(10, 20, 30));
        x.sets(0, 0, 2, 0);
        due("size(0)", x.size(0), 1);
        due("size(1)", x.size(1), 2);
        for (int k : of(-1, 2, 4999, 5000, LOW, HIGH)) due("size(" + k + ")", x.size(k), -1);
        x.line(0, 5, 0, 0);
        due("told after a change too", x.size(1), 2);
    }

    private static void linesOfSets() {
        TwoBooks x = desk(of(30), of(10, 20, 30));
        x.sets(0, 0, 2, 0);
        due("in(0, 0)", x.in(0, 0), 2);
        due("in(1, 0)", x.in(1, 0), 0);
        due("in(1, 1)", x.in(1, 1), 1);
        due("in(0, 1)", x.in(0, 1), -1);
        for (int k : of(-1, 2, 4999, 5000, LOW, HIGH)) due("in(" + k + ", 0)", x.in(k, 0), -1);
        for (int j : of(-1, 2, 4, LOW, HIGH)) due("in(1, " + j + ")", x.in(1, j), -1);
        x.line(0, 5, 0, 0);
        due("told after a change too", x.in(1, 1), 1);
    }

    private static void set() {
        TwoBooks x = desk(of(30, 50), of(10, 20, 30));
        x.sets(0, 0, 2, 0);
        for (int k : of(-1, 2, LOW, HIGH)) due("set(" + k + ")", x.set(k), -1);
        x.best();
        x.explain();
        x.sets(0, 9, 1, 0);
        due("after asking, and a refused sets()", x.set(1), 0);
        due("its SORT", x.group(0, 0), SET);
        due("its LINES", x.group(0, 1), 3);
        due("its line", x.told(0, 0, 5), 0);
        due("its DIFFERENCE", x.group(0, 2), 0);
        due("again", x.set(0), -1);
        x.sets(0, 1, 1, 20);
        x.lock(0, 0);
        due("after something was done", x.set(0), -1);
        due("while they are told", x.size(0), 1);
        x.sets(1, 2, 1, 20);
        due("of book 1", x.set(0), 1);
        due("its DIFFERENCE", x.group(1, 2), 20);
    }

    private static void hands() {
        TwoBooks x = desk(of(10, 20), of(5, 6));
        for (int a : of(-1, 2, LOW, HIGH)) {
            due("hand(" + a + ", 0)", x.hand(a, 0), -1);
            due("hand(0, " + a + ")", x.hand(0, a), -1);
        }
        x.today(4);
        due("hand", x.hand(1, 0), 0);
        int[] want = {HAND, 2, 15, 4, -1, 0};
        for (int what = 0; what < 6; what++) due("group(0, " + what + ")", x.group(0, what), want[what]);
        due("TAKEN in book 0", x.hand(1, 1), -2);
        due("TAKEN in book 1", x.hand(0, 0), -2);
        due("NONE comes ahead of TAKEN", x.hand(1, 2), -1);
        due("another", x.hand(0, 1), 1);
    }

    private static void join() {
        TwoBooks x = desk(of(10, 20, 30, 40, 50), of(10, 20, 30, 40, 50));
        x.best();
        x.pair(0);
        x.part(1);
        x.part(2);
        x.part(3);
        x.part(4);
        due("its SORT before", x.group(0, 0), BEST);
        due("join", x.join(0, 0, 1), 3);
        due("its SORT", x.group(0, 0), HAND);
        due("its DIFFERENCE", x.group(0, 2), 20);
        due("its line's GROUP", x.told(0, 1, 5), 0);
        for (int g : of(-1, 1, 5, LOW, HIGH)) due("join(" + g + ")", x.join(g, 0, 2), -1);
        for (int book : of(-1, 2, LOW, HIGH)) due("join to book " + book, x.join(0, book, 2), -1);
        for (int i : of(-1, 5, LOW, HIGH)) due("join of line " + i, x.join(0, 0, i), -1);
        due("TAKEN", x.join(0, 0, 1), -2);
        x.lock(0, 1);
        due("TAKEN comes ahead of LOCKED", x.join(0, 0, 1), -2);
        due("LOCKED", x.join(0, 0, 2), -3);
        x.lock(0, 0);
        for (int i = 1; i <= 4; i++) due("join of line " + i, x.join(0, 1, i), 3 + i);
        due("the eighth", x.join(0, 0, 2), 8);
        due("the ninth", x.join(0, 0, 3), -5);
        x.lock(0, 1);
        due("LOCKED comes ahead of FULL", x.join(0, 0, 3), -3);
    }

    private static void part() {
        TwoBooks x = desk(of(10, 20, 30), of(10, 20));
        x.hand(0, 0);
        x.join(0, 0, 1);
        x.today(5);
        for (int g : of(-1, 1, 200, LOW, HIGH)) due("part(" + g + ")", x.part(g), -1);
        x.lock(0, 1);
        due("LOCKED", x.part(0), -3);
        x.lock(0, 0);
        due("part", x.part(0), 3);
        due("again", x.part(0), -1);
        due("the day", x.group(0, 4), 5);
        due("its lines are BREAKS", x.breaks(0, 0) * 10 + x.breaks(1, 0), 32);
        due("its number is not given anew", x.hand(0, 0), 1);
        due("GROUPS made", x.count(2), 2);
        due("GROUPS there", x.count(3), 1);
    }

    private static void lock() {
        TwoBooks x = desk(of(10), of(10));
        x.hand(0, 0);
        due("lock", x.lock(0, 1), 0);
        due("it is", x.group(0, 5), 1);
        due("lock again", x.lock(0, 1), 1);
        due("unlock", x.lock(0, 0), 1);
        due("it is not", x.group(0, 5), 0);
        for (int is : of(-1, 2, LOW, HIGH)) due("is " + is, x.lock(0, is), -1);
        for (int g : of(-1, 1, LOW, HIGH)) due("lock(" + g + ")", x.lock(g, 1), -1);
        x.part(0);
        due("a PARTED one", x.lock(0, 1), -1);
    }

    private static void group() {
        TwoBooks x = desk(of(10, 20), of(7, 8));
        x.today(2);
        x.hand(0, 0);
        x.join(0, 1, 1);
        x.today(9);
        x.part(0);
        int[] want = {HAND, 3, -5, 2, 9, 0};
        for (int what = 0; what < 6; what++) due("group(0, " + what + ")", x.group(0, what), want[what]);
        for (int what : of(-1, 6, LOW, HIGH)) due("group what " + what, x.group(0, what), -20000000);
        for (int g : of(-1, 1, 200, LOW, HIGH)) due("group(" + g + ")", x.group(g, 0), -20000000);
    }

    private static void breaks() {
        TwoBooks x = new TwoBooks();
        for (int day = 0; day < 4; day++) {
            x.today(day);
            x.line(0, 5, 0, 0);
        }
        x.line(1, 5, 0, 0);
        for (int age = 0; age < 6; age++) due("breaks(0, " + age + ")", x.breaks(0, age), Math.max(0, 4 - age));
        due("of book 1", x.breaks(1, 0), 1);
        x.hand(0, 0);
        due("without one in a GROUP", x.breaks(0, 2), 1);
        due("of book 1", x.breaks(1, 0), 0);
        for (int age : of(-1, LOW)) due("breaks(0, " + age + ")", x.breaks(0, age), -1);
        due("breaks(0, HIGH)", x.breaks(0, HIGH), 0);
        for (int book : of(-1, 2, LOW, HIGH)) due("breaks of book " + book, x.breaks(book, 0), -1);
    }

    private static void broken() {
        TwoBooks x = desk(of(1, 2, 3, 4), of(1, 2));
        x.hand(1, 0);
        due("broken(0, 0)", x.broken(0, 0), 0);
        due("broken(0, 1)", x.broken(0, 1), 2);
        due("broken(0, 2)", x.broken(0, 2), 3);
        due("broken(1, 0)", x.broken(1, 0), 1);
        for (int i : of(-1, 3, 80, LOW, HIGH)) due("broken(0, " + i + ")", x.broken(0, i), -1);
        for (int book : of(-1, 2, LOW, HIGH)) due("broken of book " + book, x.broken(book, 0), -1);
    }

    private static void sum() {
        TwoBooks x = desk(of(100, -30, 7), of(50, 60));
        x.hand(0, 1);
        due("sum(0)", x.sum(0), -33);
        due("sum(1)", x.sum(1), -23);
        due("sum(2)", x.sum(2), 50);
        due("sum(3)", x.sum(3), 40);
        for (int what : of(-1, 4, LOW, HIGH)) due("sum(" + what + ")", x.sum(what), 0);
        x.part(0);
        due("sum(3) when it is PARTED", x.sum(3), 0);
        x = new TwoBooks();
        for (int i = 0; i < 80; i++) {
            x.line(0, 1000000, 0, 0);
            x.line(1, -1000000, 0, 0);
        }
        due("the greatest DIFFERENCE", x.sum(0), 160000000L);
    }

    private static void as() {
        TwoBooks x = desk(of(10, 20), of(10));
        x.today(2);
        x.hand(0, 0);
        x.line(0, 40, 0, 0);
        x.today(4);
        x.join(0, 0, 1);
        x.today(6);
        x.part(0);
        x.hand(2, 0);
        long[][] want = {{3, 20, 0}, {3, 20, 0}, {1, 40, 1}, {1, 40, 1}, {1, 40, 1}, {1, 40, 1}, {2, 30, 1}};
        for (int day = 0; day <= 6; day++)
            for (int what = 0; what < 3; what++) due("as(" + day + ", " + what + ")", x.as(day, what), want[day][what]);
        for (int day : of(-1, 7, LOW, HIGH)) due("as(" + day + ", 0)", x.as(day, 0), -2000000000000L);
        for (int what : of(-1, 3, LOW, HIGH)) due("as(0, " + what + ")", x.as(0, what), -2000000000000L);
        x.part(1);
        due("made and PARTED on one day", x.as(6, 2), 0);
    }

    private static void explain() {
        TwoBooks x = desk(of(5, 3, 2), of(4, 1));
        // the DIFFERENCE is 5: {5}
        due("one is enough", x.explain(), 1);
        due("a BREAK of book 0", x.explained(0, 0), 0);
        due("its number", x.explained(0, 1), 0);
        x.hand(0, 0);
        // the GROUP's 1, and 3, 2, -1: {3, 2}
        due("two", x.explain(), 2);
        due("the first", x.explained(0, 0) * 100 + x.explained(0, 1), 1);
        due("the second", x.explained(1, 0) * 100 + x.explained(1, 1), 2);
        due("no third", x.explained(2, 0), -1);
        x = desk(of(4, 5), of(2));
        x.hand(0, 0);
        x.line(0, 1, 0, 0);
        x.line(1, 1, 0, 0);
        // the GROUP's 2, and 5, 1, -1: {5, GROUP} and not {5, 1, -1, GROUP}
        due("with a GROUP", x.explain(), 2);
        due("a GROUP stands last", x.explained(1, 0) * 100 + x.explained(1, 1), 200);
        x = desk(of(1, 2, 3), of(6, 5, -5));
        due("no DIFFERENCE", x.sum(0), 0);
        due("nothing to explain", x.explain(), 0);
        due("nothing told", x.explained(0, 0), -1);
        x = desk(of(3, 4, 4, 3, 9), of(9, 1, 6));
        // 7 of {3, 4, 4, 3, 9, -9, -1, -6}: {0, 1} comes ahead of {0, 2}, {1, 3}, ...
        due("of several the first", x.explain(), 2);
        due("of several the first", x.explained(0, 1) * 10 + x.explained(1, 1), 1);
    }

    private static void explainAtItsLimit() {
        TwoBooks x = desk(of(1, 2, 4, 8, 16, 32, 64, 128, 256), of(-512, -1024, -2048, -4096, -8192, -16384, -32768, -65536, -131072));
        due("18 of 18", x.explain(), 18);
        for (int j = 0; j < 18; j++) {
            due("kind of " + j, x.explained(j, 0), j / 9);
            due("number of " + j, x.explained(j, 1), j % 9);
        }
        x.line(0, 7, 0, 0);
        due("19", x.explain(), -4);
        due("what is refused changes nothing", x.explained(17, 1), 8);
        x.hand(9, 0);
        due("18 with a GROUP", x.explain(), 18);
        due("the GROUP is the last", x.explained(17, 0) * 100 + x.explained(17, 1), 200);
        x.line(1, 7, 0, 0);
        due("19 again", x.explain(), -4);
        // GROUPS without a DIFFERENCE are not among these
        x.part(0);
        x.hand(9, 9);
        due("18 and an even GROUP", x.explain(), 18);
    }

    private static void explainNoDifferenceAtItsLimit() {
        TwoBooks x = desk(of(1, 2, 3, 4, 5, 6, 7, 8, 9), of(9, 8, 7, 6, 5, 4, 3, 2, 1));
        due("no DIFFERENCE, 18", x.explain(), 0);
        due("nothing told", x.explained(0, 0), -1);
        x.line(0, 10, 0, 0);
        x.hand(9, 8);
        // 10 of {1 .. 9, -9 .. -2, the GROUP's 9}: {1, 9}
        due("18 and a DIFFERENCE", x.explain(), 2);
        due("the second", x.explained(1, 0) * 100 + x.explained(1, 1), 8);
        x.line(1, 10, 0, 0);
        due("no DIFFERENCE, 19", x.sum(0), 0);
        due("no DIFFERENCE, 19", x.explain(), -4);
        due("what is refused changes nothing", x.explained(1, 1), 8);
        x.part(0);
        due("no DIFFERENCE, 20", x.explain(), -4);
        x.hand(9, 9);
        due("no DIFFERENCE, 18 and an even GROUP", x.explain(), 0);
        due("nothing told then", x.explained(0, 0), -1);
    }

    private static void explained() {
        TwoBooks x = desk(of(10, 20), of(4, 50));
        x.hand(0, 0);
        // the DIFFERENCE is -24: 20, -50 and the GROUP's 6
        due("explain", x.explain(), 3);
        int[] numbers = {1, 1, 0};
        for (int j = 0; j < 3; j++) {
            due("explained(" + j + ", 0)", x.explained(j, 0), j);
            due("explained(" + j + ", 1)", x.explained(j, 1), numbers[j]);
        }
        for (int j : of(-1, 3, 18, LOW, HIGH)) due("explained(" + j + ", 0)", x.explained(j, 0), -1);
        for (int what : of(-1, 2, LOW, HIGH)) due("explained(0, " + what + ")", x.explained(0, what), -1);
        x.part(0);
        due("told after a change too", x.explained(2, 0), 2);
    }

    private static void undo() {
        TwoBooks x = desk(of(10, 20), of(10, 20));
        due("acts", x.count(4), 4);
        x.best();
        x.pair(0);
        x.lock(1, 1);
        x.line(0, 5, 0, 0);
        x.join(0, 0, 2);
        x.part(0);
        x.sets(0, 0, 1, 0);
        x.set(0);
        due("acts", x.count(4), 11);
        due("undo of set", x.undo(), 10);
        due("it is gone", x.count(2), 2);
        due("its line is a BREAK", x.told(0, 0, 5), -1);
        due("undo of part", x.undo(), 9);
        due("it is there", x.group(0, 4), -1);
        due("its lines again", x.told(0, 2, 5), 0);
        due("undo of join", x.undo(), 8);
        due("the SORT that it had", x.group(0, 0), BEST);
        due("the lines that it had", x.group(0, 1), 2);
        due("a BREAK again", x.told(0, 2, 5), -1);
        due("undo of line", x.undo(), 7);
        due("it is gone", x.told(0, 2, 0), -2000000);
        due("undo of lock", x.undo(), 6);
        due("as it was", x.group(1, 5), 0);
        due("undo of a pair", x.undo(), 5);
        due("undo of a pair", x.undo(), 4);
        due("no GROUPS", x.count(2), 0);
        due("its number is given anew", x.hand(1, 1), 0);
        for (int left = 4; left >= 0; left--) due("undo", x.undo(), left);
        due("no more", x.undo(), -1);
        due("its number is given anew", x.line(1, 1, 0, 0), 0);
    }

    private static void undoEnds() {
        TwoBooks x = desk(of(10), of(10));
        x.today(0);
        x.terms(5, 0);
        due("the same TODAY and terms", x.count(4), 2);
        x.today(1);
        due("another TODAY", x.count(4), 0);
        due("undo", x.undo(), -1);
        put(x, 0, 5);
        x.terms(4, 0);
        due("another SPAN", x.count(4), 0);
        put(x, 0, 5);
        x.terms(4, 1);
        due("other COINS", x.undo(), -1);
        for (int i = 0; i < 62; i++) x.line(1, 1, 0, 0);
        due("60 at most", x.count(4), 60);
        for (int left = 59; left >= 0; left--) due("undo", x.undo(), left);
        due("the 61st", x.undo(), -1);
        due("two stay", x.count(1), 3);
    }

    private static void count() {
        TwoBooks x = desk(of(1, 2, 3), of(1, 2));
        x.today(8);
        x.hand(0, 0);
        x.hand(1, 1);
        x.part(0);
        int[] want = {3, 2, 2, 1, 3, 8};
        for (int what = 0; what < 6; what++) due("count(" + what + ")", x.count(what), want[what]);
        for (int what : of(-1, 6, LOW, HIGH)) due("count(" + what + ")", x.count(what), -1);
    }

    private static void check() {
        TwoBooks x = desk(of(10, 20, 30), of(10, 25, 30));
        due("check", x.check(), 0);
        x.hand(0, 0);
        x.join(0, 1, 1);
        due("with a GROUP", x.check(), 0);
        x.part(0);
        x.hand(1, 1);
        due("with a PARTED one", x.check(), 0);
        x.undo();
        x.undo();
        due("after undo", x.check(), 0);
        x.today(3);
        x.part(0);
        x.hand(0, 1);
        due("on another day", x.check(), 0);
    }

    public static void main(String[] args) {
        by("promise 1"); newObject();
        by("promise 2"); lines();
        by("promise 3"); days();
        by("promise 4"); terms();
        by("promise 5"); told();
        by("promise 6"); fits(); learning();
        by("promise 7"); best(); bestAtItsLimit(); fresh();
        by("promise 8"); with();
        by("promise 9"); rivals();
        by("promise 10"); pairs(); groupsFull(); pairsUpToFull();
        by("promise 11"); sets(); setsByDays(); setsAtTheirLimit();
        by("promise 12"); sizes();
        by("promise 13"); linesOfSets();
        by("promise 14"); set();
        by("promise 15"); hands();
        by("promise 16"); join();
        by("promise 17"); part();
        by("promise 18"); lock();
        by("promise 19"); group();
        by("promise 20"); breaks();
        by("promise 21"); broken();
        by("promise 22"); sum();
        by("promise 23"); as();
        by("promise 24"); explain(); explainAtItsLimit(); explainNoDifferenceAtItsLimit();
        by("promise 25"); explained();
        by("promise 26"); undo(); undoEnds();
        by("promise 27"); count();
        by("promise 28"); check();
        end("all promises are kept");
    }
}
