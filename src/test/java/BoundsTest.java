import java.util.ArrayList;
import java.util.Arrays;
import java.util.List;

/**
 * The sentences of the document that name a bound, or a case that is too small, too large, empty or full: each
 * has a test of its own, on both sides of the bound. What is refused, and that it changes nothing, stands in
 * RefusalsTest. No object is asked more than the 512 times for which the document speaks.
 */
public final class BoundsTest extends DueAnswers {

    // ---- books

    private static void linesOfABook() {
        sentence("LINES of a book are numbered from 0 on, as they came, at most 80 each");
        for (int book : of(0, 1)) {
            TwoBooks x = new TwoBooks();
            due("lines at first", x.count(book), 0);
            due("a line of an empty book", x.told(book, 0, 0), NO_LINE);
            for (int i = 0; i < 80; i++) due("line " + i, x.line(book, 1000 + i, 0, 0), i);
            for (int i = 0; i < 80; i++) due("the amount of line " + i, x.told(book, i, 0), 1000 + i);
            due("the 81st", x.line(book, 1, 0, 0), FULL);
            due("lines", x.count(book), 80);
            due("line 80", x.told(book, 80, 0), NO_LINE);
            due("the other book", x.line(1 - book, 1, 0, 0), 0);
            due("undo", x.undo(), 59);
            due("undo", x.undo(), 58);
            due("the 80th again", x.line(book, 1, 0, 0), 79);
            due("the 81st again", x.line(book, 1, 0, 0), FULL);
        }
    }

    private static void bothBooksFull() {
        sentence("at most 80 each");
        TwoBooks x = many(many(new TwoBooks(), 0, 80, 5), 1, 79, 5);
        due("the 80th of book 1", x.line(1, 5, 0, 0), 79);
        due("the 81st of book 0", x.line(0, 5, 0, 0), FULL);
        due("the 81st of book 1", x.line(1, 5, 0, 0), FULL);
        due("the last of both", x.fit(79, 79), 130);
        due("a hand on the last of both", x.hand(79, 79), 0);
        due("breaks of book 0", x.breaks(0, 0), 79);
        due("the last break of book 1", x.broken(1, 78), 78);
        due("no break behind it", x.broken(1, 79), NONE);
    }

    private static void amounts() {
        sentence("an AMOUNT in coins (-1000000 .. 1000000, not 0)");
        TwoBooks x = new TwoBooks();
        int number = 0;
        for (int amount : of(-1000000, -999999, -1, 1, 999999, 1000000)) {
            due("line of " + amount, x.line(0, amount, 0, 0), number);
            due("its amount", x.told(0, number++, 0), amount);
        }
        for (int amount : of(-1000001, 0, 1000001, LOW, HIGH)) due("line of " + amount, x.line(0, amount, 0, 0), NONE);
        due("lines", x.count(0), number);
    }

    private static void daysAndMarks() {
        sentence("a DAY (0 .. 9999)");
        sentence("a MARK (0 .. 9999; 0: none)");
        sentence("DAY and MARK come as one number: 10000 times the DAY and the MARK.");
        TwoBooks x = new TwoBooks();
        int number = 0;
        for (int dayMark : of(0, 1, 9999, 10000, 10001, 19999, 99989999, 99990000, 99999999)) {
            due("line of " + dayMark, x.line(1, 5, dayMark, 0), number);
            due("DAY of " + dayMark, x.told(1, number, 1), dayMark / 10000);
            due("MARK of " + dayMark, x.told(1, number++, 3), dayMark % 10000);
        }
        for (int dayMark : of(-1, -10000, 100000000, 100000001, LOW, HIGH))
            due("line of " + dayMark, x.line(1, 5, dayMark, 0), NONE);
        due("lines", x.count(1), number);
    }

    private static void words() {
        sentence("a WORD (0 .. 99)");
        TwoBooks x = new TwoBooks();
        int number = 0;
        for (int word : of(0, 1, 98, 99)) {
            due("line with word " + word, x.line(0, 5, 0, word), number);
            due("its word", x.told(0, number++, 2), word);
        }
        for (int word : of(-1, 100, LOW, HIGH)) due("line with word " + word, x.line(0, 5, 0, word), NONE);
        due("lines", x.count(0), number);
    }

    private static void todayAndKnown() {
        sentence("TODAY is a day, 0 at first; a LINE is KNOWN from the day that was TODAY when it came.");
        TwoBooks x = new TwoBooks();
        due("TODAY at first", x.count(5), 0);
        int number = 0;
        for (int day : of(0, 1, 12345, 99999)) {
            x.today(day);
            x.line(0, 5, 70000, 0);
            due("KNOWN from", x.told(0, number++, 4), day);
        }
        due("the first stays KNOWN from", x.told(0, 0, 4), 0);
    }

    private static void todayUpTo() {
        sentence("TODAY becomes d, not less than it was (up to 99999): what it was.");
        TwoBooks x = new TwoBooks();
        due("today(-1) on day 0", x.today(-1), NONE);
        due("today(0) on day 0", x.today(0), 0);
        due("today(1)", x.today(1), 0);
        due("today(0) on day 1", x.today(0), NONE);
        due("today(500)", x.today(500), 1);
        due("today(499)", x.today(499), NONE);
        due("today(500) again", x.today(500), 500);
        due("today(99998)", x.today(99998), 500);
        for (int d : of(100000, HIGH, LOW, -1, 99997)) due("today(" + d + ")", x.today(d), NONE);
        due("TODAY", x.count(5), 99998);
        due("today(99999)", x.today(99999), 99998);
        due("today(100000) on the last day", x.today(100000), NONE);
        due("today(99999) again", x.today(99999), 99999);
    }

    // ---- groups

    private static void leastGroup() {
        sentence("A GROUP has LINES of book 0 and of book 1, one at least of each");
        TwoBooks x = desk(of(5), of(900));
        due("off by 10000 from nothing, but the empty set is none", x.sets(0, 0, 4, 894), 0);
        due("nor is the line itself", x.sets(1, 0, 4, 894), 0);
        due("the one line of the other book", x.sets(0, 0, 4, 895), 1);
        due("set", x.set(0), 0);
        due("LINES of the least GROUP", x.group(0, 1), 2);
        x = desk(of(5), of());
        due("no line of book 1 for hand", x.hand(0, 0), NONE);
        due("no sets in an empty book", x.sets(0, 0, 4, 10000), 0);
        due("no pairs with an empty book", x.best(), 0);
        due("pair of none", x.pair(0), 0);
        x = desk(of(), of(5));
        due("no line of book 0 for hand", x.hand(0, 0), NONE);
        due("no sets in an empty book 0", x.sets(1, 0, 4, 10000), 0);
        due("no GROUPS", x.count(2), 0);
    }

    private static void groupNumbers() {
        sentence("it has a number (from 0 on, over all that were made), the day that was TODAY when it was made, and a SORT: 0 BEST, 1 SET, 2 HAND.");
        TwoBooks x = desk(of(10, 20, 30), of(10, 20, 30));
        due("no GROUP at first", x.group(0, 0), NO_GROUP);
        due("by hand", x.hand(0, 0), 0);
        due("no second one yet", x.group(1, 0), NO_GROUP);
        x.part(0);
        due("a PARTED one has its number still", x.group(0, 0), HAND);
        x.today(4);
        x.sets(0, 1, 1, 0);
        due("by sets", x.set(0), 1);
        x.today(6);
        x.best();
        due("by pairing", x.pair(0), 2);
        due("SORT of 1", x.group(1, 0), SET);
        due("SORT of 2", x.group(2, 0), BEST);
        for (int g = 0; g < 4; g++) due("day of " + g, x.group(g, 3), g == 0 ? 0 : g == 1 ? 4 : 6);
        due("no fifth", x.group(4, 3), NO_GROUP);
        due("made", x.count(2), 4);
        due("there", x.count(3), 3);
    }

    private static void groupDifference() {
        sentence("Its DIFFERENCE: the sum of its AMOUNTS of book 0 less that of book 1.");
        for (int sign : of(1, -1)) {
            TwoBooks x = many(many(new TwoBooks(), 0, 4, sign * 1000000), 1, 4, sign * -1000000);
            x.hand(0, 0);
            due("of two", x.group(0, 2), sign * 2000000);
            for (int i = 1; i < 4; i++) {
                x.join(0, 0, i);
                x.join(0, 1, i);
            }
            due("of eight", x.group(0, 2), sign * 8000000);
            due("all DIFFERENCES", x.sum(3), sign * 8000000);
        }
    }

    private static void partedAsOfToday() {
        sentence("A GROUP that is PARTED is no more (as of the day that is TODAY then).");
        TwoBooks x = desk(of(10), of(10));
        x.today(3);
        x.hand(0, 0);
        due("it is there", x.group(0, 4), -1);
        x.today(7);
        x.part(0);
        x.today(9);
        due("PARTED on", x.group(0, 4), 7);
        due("GROUPS the day before", x.as(6, 2), 1);
        due("GROUPS that day", x.as(7, 2), 0);
        due("there", x.count(3), 0);
        due("made", x.count(2), 1);
        x = desk(of(10), of(10));
        x.hand(0, 0);
        x.part(0);
        due("PARTED on day 0", x.group(0, 4), 0);
    }

    private static void oneGroupAtMost() {
        sentence("A LINE is in one GROUP at most; else it is a BREAK.");
        TwoBooks x = desk(of(10, 10), of(10, 10));
        due("a BREAK", x.told(0, 0, 5), -1);
        x.hand(0, 0);
        due("in a GROUP", x.told(0, 0, 5), 0);
        due("no BREAK any more", x.broken(0, 0), 1);
        due("by hand again", x.hand(0, 1), TAKEN);
        due("with a line that is TAKEN", x.hand(1, 0), TAKEN);
        due("joined to its own GROUP", x.join(0, 0, 0), TAKEN);
        due("its sets", x.sets(0, 0, 1, 0), TAKEN);
        due("sets of another leave it out", x.sets(0, 1, 1, 0), 1);
        due("they have the other one", x.in(0, 0), 1);
        x.best();
        due("no pair for it", x.with(0), NONE);
        due("the other's pair", x.with(1), 1);
        due("a second GROUP of the others", x.hand(1, 1), 1);
        due("joined to another GROUP", x.join(1, 0, 0), TAKEN);
        x.part(0);
        due("a BREAK when it is PARTED", x.told(0, 0, 5), -1);
        due("free to be joined", x.join(1, 0, 0), 3);
        due("in that one", x.told(0, 0, 5), 1);
        due("check", x.check(), 0);
    }

    private static void lockedCantBeParted() {
        sentence("LOCKED GROUPS can't be PARTED.");
        TwoBooks x = desk(of(10), of(10));
        x.hand(0, 0);
        due("lock", x.lock(0, 1), 0);
        due("part", x.part(0), LOCKED);
        due("it is there", x.group(0, 4), -1);
        due("its line", x.told(0, 0, 5), 0);
        due("unlock", x.lock(0, 0), 1);
        due("part", x.part(0), 2);
        due("a line of it", x.told(0, 0, 5), -1);
    }

    private static void differenceOfTheBooks() {
        sentence("DIFFERENCE of the BOOKS: the sum of all AMOUNTS of book 0 less that of book 1.");
        due("of empty books", new TwoBooks().sum(0), 0);
        for (int sign : of(1, -1)) {
            TwoBooks x = many(many(new TwoBooks(), 0, 80, sign * 1000000), 1, 80, sign * -1000000);
            due("the farthest", x.sum(0), sign * 160000000L);
            due("breaks of book 0", x.sum(1), sign * 80000000L);
            due("breaks of book 1", x.sum(2), sign * -80000000L);
            due("as of the day", x.as(0, 1), sign * 160000000L);
            x.hand(0, 0);
            due("the farthest, with a GROUP", x.sum(0), sign * 160000000L);
            due("breaks of book 0, without one", x.sum(1), sign * 79000000L);
        }
    }

    private static void anotherSum() {
        sentence("0 for another what.");
        sentence("(0 is 1 less 2 and 3.)");
        TwoBooks x = desk(of(100, 7), of(30, 2));
        x.hand(0, 0);
        due("sum(0)", x.sum(0), 75);
        due("sum(1)", x.sum(1), 7);
        due("sum(2)", x.sum(2), 2);
        due("sum(3)", x.sum(3), 70);
        for (int what : of(-1, 4, 5, LOW, HIGH)) due("sum(" + what + ")", x.sum(what), 0);
    }

    // ---- terms and fits

    private static void termsAtFirst() {
        sentence("SPAN (0 .. 99; 5 at first) and COINS (0 .. 10000; 0 at first).");
        due("5 days", couple(100, 0, 100, 50000).fit(0, 0), 90);
        due("6 days", couple(100, 0, 100, 60000).fit(0, 0), 0);
        due("0 coins", couple(100, 0, 100, 0).fit(0, 0), 100);
        due("1 coin", couple(100, 0, 101, 0).fit(0, 0), 0);
        TwoBooks x = couple(100, 0, 100, 50000);
        for (int span : of(0, 1, 98, 99)) due("span " + span, x.terms(span, 0), 1);
        for (int coins : of(0, 1, 9999, 10000)) due("coins " + coins, x.terms(5, coins), 1);
        for (int span : of(-1, 100, LOW, HIGH)) due("span " + span, x.terms(span, 0), NONE);
        for (int coins : of(-1, 10001, LOW, HIGH)) due("coins " + coins, x.terms(0, coins), NONE);
        due("the terms that were taken last", x.fit(0, 0), 90);
    }

    private static void daysApart() {
        sentence("none, if their DAYS are more than SPAN apart");
        for (int span : of(0, 1, 5, 50, 99)) {
            for (int apart : of(span, span + 1)) {
                TwoBooks later = couple(100, 1000000, 100, (100 + apart) * 10000);
                TwoBooks earlier = couple(100, 1000000, 100, (100 - apart) * 10000);
                later.terms(span, 0);
                earlier.terms(span, 0);
                int want = apart > span ? 0 : Math.max(1, 100 - 2 * apart);
                due("span " + span + ", " + apart + " days later", later.fit(0, 0), want);
                due("span " + span + ", " + apart + " days earlier", earlier.fit(0, 0), want);
            }
        }
        TwoBooks x = couple(100, 0, 100, 99990000);
        x.terms(99, 0);
        due("the first day and the last", x.fit(0, 0), 0);
    }

    private static void coinsApart() {
        sentence("their AMOUNTS more than COINS apart");
        for (int coins : of(0, 1, 99, 100, 9999, 10000)) {
            for (int apart : of(coins, coins + 1)) {
                int want = apart > coins ? 0 : Math.max(1, 100 - apart / 100);
                for (int from : of(20000, -20000, 3)) {
                    TwoBooks more = couple(from, 0, from + apart, 0), less = couple(from + apart, 0, from, 0);
                    more.terms(5, coins);
                    less.terms(5, coins);
                    due("coins " + coins + ", " + apart + " more than " + from, more.fit(0, 0), want);
                    due("coins " + coins + ", " + apart + " less than " + (from + apart), less.fit(0, 0), want);
                }
            }
        }
        TwoBooks x = couple(-1000000, 0, 1000000, 0);
        x.terms(99, 10000);
        due("the least amount and the greatest", x.fit(0, 0), 0);
        x = couple(-1, 0, 1, 0);
        x.terms(5, 1);
        due("2 coins, from -1 to 1", x.fit(0, 0), 0);
        x.terms(5, 2);
        due("2 coins of 2", x.fit(0, 0), 100);
    }

    private static void twoMarks() {
        sentence("or both have a MARK and these are two");
        sentence("50 more if both have the one MARK");
        due("none and none", couple(100, 0, 100, 0).fit(0, 0), 100);
        due("none and 1", couple(100, 0, 100, 1).fit(0, 0), 100);
        due("9999 and none", couple(100, 9999, 100, 0).fit(0, 0), 100);
        due("1 and 1", couple(100, 1, 100, 1).fit(0, 0), 150);
        due("9999 and 9999", couple(100, 9999, 100, 9999).fit(0, 0), 150);
        due("1 and 2", couple(100, 1, 100, 2).fit(0, 0), 0);
        due("9999 and 9998", couple(100, 9999, 100, 9998).fit(0, 0), 0);
    }

    private static void wholeHundreds() {
        sentence("else 100, less 2 for each DAY that they are apart, less 1 for each whole 100 coins that their AMOUNTS are apart");
        for (int apart : of(0, 1, 99, 100, 101, 199, 200, 299, 300, 9899, 9900)) {
            TwoBooks x = couple(500, 0, 500 + apart, 0);
            x.terms(99, 10000);
            due(apart + " coins", x.fit(0, 0), 100 - apart / 100);
        }
        for (int days : of(0, 1, 2, 49)) {
            TwoBooks x = couple(500, 0, 500, days * 10000);
            x.terms(99, 10000);
            due(days + " days", x.fit(0, 0), 100 - 2 * days);
        }
    }

    private static void oneWord() {
        sentence("30 more if they have one WORD");
        TwoBooks x = new TwoBooks();
        for (int word : of(0, 99, 50)) {
            x.line(0, 100, 0, word);
            x.line(1, 100, 0, word);
        }
        for (int a = 0; a < 3; a++)
            for (int b = 0; b < 3; b++) due("fit(" + a + ", " + b + ")", x.fit(a, b), a == b ? 130 : 100);
    }

    private static void atLeastOne() {
        sentence("at least 1");
        // 49 days: 2 are left; and 100, 199 or 200 coins
        int[][] want = {{0, 2}, {99, 2}, {100, 1}, {199, 1}, {200, 1}, {10000, 1}};
        for (int[] row : want) {
            TwoBooks x = couple(500, 0, 500 + row[0], 490000);
            x.terms(99, 10000);
            due("49 days and " + row[0] + " coins", x.fit(0, 0), row[1]);
        }
        TwoBooks x = new TwoBooks();
        x.terms(99, 10000);
        x.line(0, 10000, 7, 3);
        x.line(1, 20000, 990007, 3);
        x.line(1, 10001, 990007, 3);
        x.line(1, 9999, 990000, 4);
        due("99 days, 10000 coins, one MARK, one WORD", x.fit(0, 0), 1);
        due("99 days, one MARK, one WORD: 100 - 198 + 80", x.fit(0, 1), 1);
        due("99 days", x.fit(0, 2), 1);
        due("a FIT of 1 is one", x.best(), 1);
        due("its pair", x.with(0), 0);
        due("its RIVAL, another FIT of 1", x.rival(0), 0);
        due("a pair of 1", x.pair(0), 1);
    }

    private static void handsCounted() {
        sentence("10 more for each GROUP of SORT HAND (that is there) with a LINE of book 0 with a's WORD and one of book 1 with b's WORD, at most 5 of these counted");
        TwoBooks x = new TwoBooks();
        for (int i = 0; i < 9; i++) {
            x.line(0, 100, 0, 1);
            x.line(1, 100, 0, 2);
        }
        for (int hands = 0; hands < 8; hands++) {
            due("fit with " + hands + " hands", x.fit(8, 8), 100 + 10 * Math.min(hands, 5));
            due("hand", x.hand(hands, hands), hands);
        }
        x.part(0);
        x.part(1);
        due("fit with 6 of 8", x.fit(8, 8), 150);
        x.part(2);
        due("fit with 5 of 8", x.fit(8, 8), 150);
        x.part(3);
        due("fit with 4 of 8", x.fit(8, 8), 140);
        due("undo", x.undo() > 0 ? x.fit(8, 8) : 0, 150);
        x.part(4);
        due("fit with 4 others", x.fit(8, 8), 140);
    }

    private static void handsOfOtherWords() {
        sentence("with a LINE of book 0 with a's WORD and one of book 1 with b's WORD");
        TwoBooks x = new TwoBooks();
        for (int word : of(1, 2, 3)) {
            x.line(0, 100, 0, word);
            x.line(1, 100, 0, word);
        }
        due("hand of words 1 and 2", x.hand(0, 1), 0);
        // fit(a, b) has words a + 1 and b + 1
        due("1 and 2", x.fit(0, 1), 110);
        due("2 and 1: the words of the books are not changed about", x.fit(1, 0), 100);
        due("1 and 3: one word is not enough", x.fit(0, 2), 100);
        due("3 and 2: one word is not enough", x.fit(2, 1), 100);
        due("join of word 3 in book 1", x.join(0, 1, 2), 3);
        due("1 and 3, by the line that joined", x.fit(0, 2), 110);
        due("3 and 3: 3 is only in book 1", x.fit(2, 2), 130);
        due("join of word 3 in book 0", x.join(0, 0, 2), 4);
        due("3 and 3, in both books", x.fit(2, 2), 140);
        due("3 and 2", x.fit(2, 1), 110);
    }

    private static void onlyHandsAreLearntFrom() {
        sentence("10 more for each GROUP of SORT HAND (that is there)");
        TwoBooks x = desk(of(10, 20), of(10, 20));
        x.best();
        x.pair(0);
        due("not of SORT BEST", x.fit(0, 0), 130);
        x.part(1);
        x.sets(0, 1, 1, 0);
        x.set(0);
        due("not of SORT SET", x.fit(0, 0), 130);
        x.part(2);
        x.join(0, 0, 1);
        due("of one that was joined", x.fit(0, 0), 140);
        x.part(0);
        due("not of one that is PARTED", x.fit(0, 0), 130);
    }

    // ---- pairing

    private static void fourteenOfEach() {
        sentence("PAIRING: of at most 14 BREAKS of each book");
        sentence("BIG: more than 14 BREAKS in a book.");
        for (int book : of(0, 1)) {
            TwoBooks x = many(new TwoBooks(), book, 14, 7);
            due("14 and an empty book", x.best(), 0);
            x.line(book, 7, 0, 0);
            due("15 and an empty book", x.best(), BIG);
            x.undo();
            due("14 again", x.best(), 0);
            many(x, 1 - book, 14, 7);
            due("14 and 14", x.best(), 14 * 130);
            x.line(book, 7, 0, 0);
            due("15 and 14", x.best(), BIG);
            x.hand(0, 0);
            due("14 and 13, and a GROUP", x.best(), 13 * 140);
            due("the last of book 0", x.with(book == 0 ? 14 : 13), book == 0 ? NONE : 13);
            x.part(0);
            due("15 and 14 again", x.best(), BIG);
        }
    }

    private static void greatestWorth() {
        sentence("its WORTH is the sum of the FITS. BEST: the one of the greatest WORTH");
        // fits of line 0: 130 and 128; of line 1: 128 and none: the greatest fit by itself would leave 130
        TwoBooks x = new TwoBooks();
        x.terms(1, 0);
        x.line(0, 100, 30000, 1);
        x.line(0, 100, 20000, 1);
        x.line(1, 100, 30000, 1);
        x.line(1, 100, 40000, 1);
        int[] fits = {130, 128, 128, 0};
        for (int k = 0; k < 4; k++) due("fit(" + k / 2 + ", " + k % 2 + ")", x.fit(k / 2, k % 2), fits[k]);
        due("best", x.best(), 256);
        due("line 0 leaves what it fits best", x.with(0), 1);
        due("line 1 has it", x.with(1), 0);
        x.line(0, 100, 40000, 1);
        // fits of line 2: 128 and 130: lines 0 and 2 now, and line 1 goes without
        due("best of three", x.best(), 260);
        due("line 1 goes without", x.with(1), NONE);
        due("its rival", x.rival(1), 1);
        due("line 2", x.with(2), 1);
    }

    private static void firstOfSeveral() {
        sentence("of several the one that comes first: by the least LINE of book 0 for which they differ: the one in which it has the lesser LINE of book 1");
        TwoBooks x = many(many(new TwoBooks(), 0, 14, 7), 1, 14, 7);
        due("best", x.best(), 14 * 130);
        for (int a = 0; a < 14; a++) due("with(" + a + ")", x.with(a), a);
        // line 0 may have 0 or 1 or 2, lines 1 and 2 only what is left of them
        x = new TwoBooks();
        x.terms(2, 0);
        x.line(0, 100, 20000, 5);
        x.line(0, 100, 20009, 5);
        x.line(0, 100, 20008, 5);
        x.line(1, 100, 20009, 6);
        x.line(1, 100, 20008, 6);
        x.line(1, 100, 20000, 6);
        due("best by marks", x.best(), 400);
        due("line 0 has what is left", x.with(0), 2);
        due("line 1 has its mark", x.with(1), 0);
        due("line 2 has its mark", x.with(2), 1);
    }

    /** Numberings of so many lines: each row tells at which place a number stands. */
    private static List<int[]> numberings(int lines) {
        List<int[]> all = new ArrayList<>();
        if (lines == 0) all.add(of());
        else for (int[] fewer : numberings(lines - 1))
            for (int place = 0; place < lines; place++) {
                int[] more = new int[lines];
                for (int i = 0; i < lines; i++) more[i] = i < place ? fewer[i] : i == place ? lines - 1 : fewer[i - 1];
                all.add(more);
            }
        return all;
    }

    /**
     * Lines of both books at places, {amount, day} each, and all PAIRINGS of them of the greatest WORTH: for each
     * place of book 0 its place of book 1, or -1. However the lines are numbered, the one that comes first is found,
     * and found again when it is asked for again.
     */
    private static void firstOfThese(String shape, int[] terms, int[][] first, int[][] second, int[][] best, int worth) {
        for (int[] rows : numberings(first.length))
            for (int[] columns : numberings(second.length)) {
                TwoBooks x = new TwoBooks();
                x.terms(terms[0], terms[1]);
                for (int place : rows) x.line(0, first[place][0], first[place][1] * 10000, 1);
                for (int place : columns) x.line(1, second[place][0], second[place][1] * 10000, 2);
                int[] want = firstNumbered(best, rows, columns);
                for (int time = 0; time < 2; time++) {
                    due(shape, x.best(), worth);
                    for (int a = 0; a < rows.length; a++) {
                        due(shape + ", with(" + a + ")", x.with(a), want[a] == HIGH ? NONE : want[a]);
                        due(shape + ", rival(" + a + ")", x.rival(a), want[a] == HIGH ? 1 : 0);
                    }
                }
            }
    }

    private static int[] firstNumbered(int[][] pairings, int[] rows, int[] columns) {
        int[] first = null;
        for (int[] pairing : pairings) {
            int[] numbered = new int[rows.length];
            for (int a = 0; a < rows.length; a++) numbered[a] = numberOf(pairing[rows[a]], columns);
            if (first == null || Arrays.compare(numbered, first) < 0) first = numbered;
        }
        return first;
    }

    /** The number of the line at a place; none counts as greater than all. */
    private static int numberOf(int place, int[] places) {
        for (int b = 0; b < places.length; b++) if (places[b] == place) return b;
        return HIGH;
    }

    /** Eight lines around a square, the corners of book 0, the middles of its sides of book 1: each fits its two neighbours. */
    private static void firstOfARing(int coins, int days, int worth) {
        sentence("of several the one that comes first: by the least LINE of book 0 for which they differ");
        int least = 100, middle = least + coins, most = middle + coins, last = 2 * days;
        int[][] corners = {{least, 0}, {most, 0}, {most, last}, {least, last}};
        int[][] sides = {{middle, 0}, {most, days}, {middle, last}, {least, days}};
        firstOfThese("a ring", of(days, coins), corners, sides, new int[][] {{0, 1, 2, 3}, {3, 0, 1, 2}}, worth);
    }

    /** Seven lines in a row, 6 days apart, the books by turns: each fits its neighbours, and one is left over. */
    private static void firstOfARow() {
        sentence("(none counts as greater than all)");
        int[][] four = {{100, 0}, {100, 12}, {100, 24}, {100, 36}};
        int[][] three = {{100, 6}, {100, 18}, {100, 30}};
        int[][] without = {{-1, 0, 1, 2}, {0, -1, 1, 2}, {0, 1, -1, 2}, {0, 1, 2, -1}};
        int[][] all = {{0, 1, 2}, {0, 1, 3}, {0, 2, 3}, {1, 2, 3}};
        firstOfThese("a row, one of book 0 left over", of(6, 0), four, three, without, 3 * 88);
        firstOfThese("a row, one of book 1 left over", of(6, 0), three, four, all, 3 * 88);
    }

    private static void noneIsGreaterThanAll() {
        sentence("(none counts as greater than all)");
        TwoBooks x = desk(of(7, 7, 7), of(7, 7));
        due("best", x.best(), 260);
        due("with(0)", x.with(0), 0);
        due("with(1)", x.with(1), 1);
        due("with(2)", x.with(2), NONE);
        // line 0 with line 0, or line 1 with line 0: the same worth
        x = desk(of(7, 7), of(7));
        x.best();
        due("the lesser line is paired", x.with(0), 0);
        due("the greater is not", x.with(1), NONE);
        x = desk(of(7, 7), of(9, 7));
        x.best();
        due("a line that it fits, ahead of none, though it is not the least one", x.with(0), 1);
        due("none is left for the other", x.with(1), NONE);
        // fits: line 0 has one with 1, line 1 with 0 and 1: both can be paired
        x = new TwoBooks();
        x.line(0, 100, 50000, 1);
        x.line(0, 100, 0, 1);
        x.line(1, 100, 0, 2);
        x.line(1, 100, 50000, 2);
        x.terms(4, 0);
        due("best", x.best(), 200);
        due("line 0 has the only one it fits", x.with(0), 1);
        due("line 1 has the other", x.with(1), 0);
    }

    private static void rivals() {
        sentence("the greatest WORTH of PAIRINGS without that pair, less that of the BEST one (0 or less).");
        sentence("1: it has none.");
        TwoBooks x = desk(of(7, 7), of(7, 7));
        x.best();
        due("another as good", x.rival(0), 0);
        x = couple(7, 0, 7, 0);
        x.best();
        due("only the empty PAIRING is left", x.rival(0), -100);
        x = new TwoBooks();
        for (int i = 0; i < 6; i++) {
            x.line(0, 7, 1, 1);
            x.line(1, 7, 1, 1);
        }
        for (int i = 0; i < 5; i++) x.hand(i, i);
        due("the greatest FIT", x.best(), 230);
        due("the least RIVAL", x.rival(5), -230);
        due("a line in a GROUP has none", x.rival(0), 1);
        for (int a : of(-1, 6, 79, 80, LOW, HIGH)) due("rival(" + a + ")", x.rival(a), 1);
        due("nor has any in a new one", new TwoBooks().rival(0), 1);
    }

    private static void rivalsOfEachPair() {
        sentence("RIVAL of a pair of the BEST PAIRING: the greatest WORTH of PAIRINGS without that pair");
        // fits by days alone: 100 98 80 of line 0, 92 94 88 of line 1, none none 90 of line 2; best 100 + 94 + 90
        TwoBooks x = new TwoBooks();
        x.terms(10, 0);
        for (int day : of(10, 14, 25)) x.line(0, 100, day * 10000, 1);
        for (int day : of(10, 11, 20)) x.line(1, 100, day * 10000, 2);
        int[] fits = {100, 98, 80, 92, 94, 88, 0, 0, 90};
        for (int k = 0; k < 9; k++) due("fit(" + k / 3 + ", " + k % 3 + ")", x.fit(k / 3, k % 3), fits[k]);
        due("best", x.best(), 284);
        due("without 0 and 0: 98 + 92 + 90", x.rival(0), -4);
        due("without 1 and 1: 98 + 92 + 90", x.rival(1), -4);
        due("without 2 and 2: 100 + 94", x.rival(2), -90);
        x.terms(10, 1);
        x.line(1, 101, 260003, 1);
        // line 2 has 98 + 30 with line 3 now
        due("best with one more", x.best(), 322);
        due("without 0 and 0", x.rival(0), -4);
        due("without 1 and 1: 100 + 88 + 128, or 98 + 92 + 128", x.rival(1), -4);
        due("without 2 and 3: 100 + 94 + 90", x.rival(2), -38);
        due("pair(4)", x.pair(4), 3);
    }

    private static void atMostSure() {
        sentence("whose RIVAL is at most -sure (0 .. 1000)");
        // the RIVALS: -130 of line 0, 0 of lines 1 and 2
        for (int[] row : new int[][] {{0, 3}, {1, 1}, {129, 1}, {130, 1}, {131, 0}, {999, 0}, {1000, 0}}) {
            TwoBooks x = desk(of(5, 7, 7), of(5, 7, 7));
            x.best();
            due("rival of line 0", x.rival(0), -130);
            due("pair(" + row[0] + ")", x.pair(row[0]), row[1]);
            due("GROUPS", x.count(2), row[1]);
        }
        TwoBooks x = desk(of(5), of(5));
        x.best();
        for (int sure : of(-1, 1001, LOW, HIGH)) due("pair(" + sure + ")", x.pair(sure), NONE);
        due("pair(0) after those", x.pair(0), 1);
    }

    private static void pairUpToFull() {
        sentence("FULL: 200 GROUPS were made, or would be more.");
        TwoBooks x = made(186);
        x.best();
        due("14 to 186", x.pair(0), 14);
        due("GROUPS", x.count(2), 200);
        x = made(187);
        x.best();
        due("14 to 187", x.pair(0), FULL);
        due("GROUPS still", x.count(2), 187);
        for (int i = 0; i < 13; i++) x.hand(i, i);
        x.best();
        due("one to 200", x.pair(0), FULL);
        due("undo", x.undo() >= 0 ? x.count(2) : -9, 199);
        x.lock(198, 0);
        x.best();
        due("two to 199", x.pair(0), FULL);
        x.hand(13, 12);
        due("the 200th", x.count(2), 200);
        x.best();
        due("none to 200, when they were made", x.pair(1000), FULL);
    }

    private static void oneActForEach() {
        sentence("They are one act for each.");
        TwoBooks x = desk(of(5, 6, 7), of(7, 6, 5));
        x.best();
        due("pair", x.pair(0), 3);
        due("acts", x.count(4), 9);
        due("lines of book 0 rising", x.told(0, 0, 5) * 100 + x.told(0, 1, 5) * 10 + x.told(0, 2, 5), 12);
        for (int left = 2; left >= 0; left--) {
            due("undo", x.undo(), 6 + left);
            due("GROUPS left", x.count(2), left);
            due("line " + left + " of book 0 is a BREAK", x.told(0, left, 5), -1);
            due("line " + (2 - left) + " of book 1 is a BREAK", x.told(1, 2 - left, 5), -1);
        }
    }

    // ---- sets

    private static void oneToM() {
        sentence("by m (1 .. 4) and e (0 .. 10000): sets of 1 to m BREAKS of the other book");
        TwoBooks x = desk(of(10), of(10, 5, 5, 3, 2, 1, 4, 1, 1));
        due("m 1: {10}", x.sets(0, 0, 1, 0), 1);
        due("its size", x.size(0), 1);
        due("m 2: {5, 5} too", x.sets(0, 0, 2, 0), 2);
        due("the last one's size", x.size(1), 2);
        // {5, 3, 2} and {5, 4, 1}, each with either 5, the latter with each 1
        due("m 3", x.sets(0, 0, 3, 0), 2 + 2 + 6);
        due("the last one's size", x.size(9), 3);
        // {5, 3, 1, 1} with either 5 and two of three 1s; {3, 2, 1, 4} with each 1
        due("m 4", x.sets(0, 0, 4, 0), 10 + 6 + 3);
        due("the last one's size", x.size(18), 4);
        for (int m : of(0, 5, -1, LOW, HIGH)) due("m " + m, x.sets(0, 0, m, 0), NONE);
        x = desk(of(5), of(1, 1, 1, 1, 1));
        due("never five", x.sets(0, 0, 4, 0), 0);
        due("four are off by 1", x.sets(0, 0, 4, 1), 5);
        due("three are off by 2", x.sets(0, 0, 3, 2), 10);
        due("two are off by 3", x.sets(0, 0, 2, 3), 10);
        due("one is off by 4", x.sets(0, 0, 1, 4), 5);
    }

    private static void theLastFourOf80() {
        sentence("sets of 1 to m BREAKS of the other book");
        for (int book : of(0, 1)) {
            TwoBooks x = new TwoBooks();
            x.line(1 - book, 40, 90000, 0);
            for (int i = 0; i < 80; i++) x.line(book, 10, i < 76 ? 0 : 90000, 0);
            due("sets", x.sets(1 - book, 0, 4, 0), 1);
            due("size", x.size(0), 4);
            for (int j = 0; j < 4; j++) due("in(0, " + j + ")", x.in(0, j), 76 + j);
            due("set", x.set(0), 0);
            for (int i = 75; i < 80; i++) due("the GROUP of line " + i, x.told(book, i, 5), i < 76 ? -1 : 0);
        }
    }

    private static void offByAtMost() {
        sentence("whose AMOUNTS together are off from its by at most e");
        for (int e : of(0, 1, 9999, 10000)) {
            TwoBooks x = desk(of(30000, -30000), of(30000 - e, 30000 - e - 1, 30000 + e, 30000 + e + 1));
            due("e " + e, x.sets(0, 0, 1, e), 2);
            due("e less", x.in(0, 0), 0);
            due("e more", x.in(1, 0), 2);
            due("of the contrary sign", x.sets(0, 1, 1, e), 0);
        }
        for (int e : of(-1, 10001, LOW, HIGH)) due("e " + e, desk(of(5), of(5)).sets(0, 0, 1, e), NONE);
        TwoBooks x = desk(of(1000000), of(-1000000, 1000000, 1000000));
        due("amounts at their ends", x.sets(0, 0, 3, 0), 3);
        x = desk(of(-1000000), of(1000000, -1000000, -1000000));
        due("amounts at their other ends", x.sets(0, 0, 3, 0), 3);
        x = desk(of(51, -49), of(1, 1, 50, -50));
        due("the greatest amount stands late", x.sets(0, 0, 2, 0), 2);
        due("so does the least", x.sets(0, 1, 2, 0), 2);
        x = many(desk(of(1000000), of()), 1, 4, 1000000);
        due("four great ones are too much", x.sets(0, 0, 4, 10000), 4);
    }

    private static void offInTwosThreesAndFours() {
        sentence("are off from its by at most e");
        for (int size = 2; size <= 4; size++)
            for (int off : of(10, -10, 11, -11)) {
                TwoBooks x = many(desk(of(1000 * size + off), of()), 1, size, 1000);
                due(size + " lines, off by " + off, x.sets(0, 0, 4, 10), Math.abs(off) <= 10 ? 1 : 0);
                x = many(desk(of(), of(off - 1000 * size)), 0, size, -1000);
                due(size + " lines of book 0, off by " + off, x.sets(1, 0, 4, 10), Math.abs(off) <= 10 ? 1 : 0);
            }
    }

    private static void setsWithinSpan() {
        sentence("each of a DAY at most SPAN apart from it");
        for (int span : of(0, 5, 99)) {
            TwoBooks x = new TwoBooks();
            x.terms(span, 0);
            x.line(0, 50, 1000000, 0);
            for (int off : of(span, -span, span + 1, -span - 1)) x.line(1, 25, (100 + off) * 10000, 0);
            due("span " + span, x.sets(0, 0, 2, 0), 1);
            due("later", x.in(0, 0), 0);
            due("earlier", x.in(0, 1), 1);
            due("of one that is too late", x.sets(1, 2, 1, 10000), 0);
            due("of one that is not", x.sets(1, 0, 1, 10000), 1);
        }
    }

    private static void orderOfSets() {
        sentence("the ones with fewer LINES first; of like many by their numbers, rising, the first that differs being less.");
        TwoBooks x = desk(of(4), of(1, 1, 1, 1, 2, 2, 4, 3));
        due("sets of four at most", x.sets(0, 0, 4, 0), 19);
        int[] sizes = {1, 2, 2, 2, 2, 2, 3, 3, 3, 3, 3, 3, 3, 3, 3, 3, 3, 3, 4};
        int[] want = {6, 7, 17, 27, 37, 45, 14, 15, 24, 25, 34, 35, 124, 125, 134, 135, 234, 235, 123};
        for (int k = 0; k < 19; k++) {
            int lines = 0;
            for (int j = 0; j < sizes[k]; j++) lines = 10 * lines + x.in(k, j);
            due("size(" + k + ")", x.size(k), sizes[k]);
            due("the lines of set " + k, lines, want[k]);
        }
    }

    private static void upToThe5000th() {
        sentence("They are told up to the 5000th.");
        // 32 lines of 10 make 4960 threes of 30; each line of 30 is a set by itself
        for (int alone : of(39, 40, 41, 48)) {
            TwoBooks x = many(many(desk(of(30), of()), 1, 32, 10), 1, alone, 30);
            int many = Math.min(5000, 4960 + alone);
            due("sets with " + alone, x.sets(0, 0, 3, 0), many);
            due("the last one's size", x.size(many - 1), 3);
            due("none behind it", x.size(many), NONE);
            due("nothing in none", x.in(many, 0), NONE);
            // the last three are {28,30,31}, {29,30,31} and before them {28,29,31}
            int cut = 4960 + alone - many;
            due("the last three's first", x.in(many - 1, 0), cut == 0 ? 29 : cut == 1 ? 28 : 27);
            due("a set behind the last", x.set(many), NONE);
            due("a set of the last", x.set(many - 1), 0);
        }
    }

    private static void setOfFive() {
        sentence("The k-th of these becomes a GROUP of SORT SET with its LINE: its number.");
        TwoBooks x = many(desk(of(40), of()), 1, 4, 10);
        due("sets", x.sets(0, 0, 4, 0), 1);
        due("no set -1", x.set(-1), NONE);
        due("no set 1", x.set(1), NONE);
        due("set", x.set(0), 0);
        due("LINES", x.group(0, 1), 5);
        due("DIFFERENCE", x.group(0, 2), 0);
        due("not twice", x.set(0), NONE);
        x = many(desk(of(), of(-40)), 0, 4, -10);
        due("sets of book 1", x.sets(1, 0, 4, 0), 1);
        due("set", x.set(0), 0);
        for (int i = 0; i < 4; i++) due("line " + i + " of book 0", x.told(0, i, 5), 0);
        due("the line of book 1", x.told(1, 0, 5), 0);
    }

    private static void toldSets() {
        sentence("How many LINES the k-th of the SETS of the latest sets() has. NONE: there is none such.");
        TwoBooks x = desk(of(30, 99), of(10, 20, 30));
        due("before any sets()", x.size(0), NONE);
        due("in, before any sets()", x.in(0, 0), NONE);
        due("set, before any sets()", x.set(0), NONE);
        due("sets", x.sets(0, 0, 2, 0), 2);
        for (int k : of(-1, 2, 4999, 5000, LOW, HIGH)) {
            due("size(" + k + ")", x.size(k), NONE);
            due("in(" + k + ", 0)", x.in(k, 0), NONE);
            due("set(" + k + ")", x.set(k), NONE);
        }
        for (int j : of(-1, 1, 2, 3, 4, LOW, HIGH)) due("in(0, " + j + ")", x.in(0, j), NONE);
        for (int j : of(-1, 2, 3, 4, LOW, HIGH)) due("in(1, " + j + ")", x.in(1, j), NONE);
        due("in(0, 0)", x.in(0, 0), 2);
        due("in(1, 1)", x.in(1, 1), 1);
        due("the latest has none", x.sets(0, 1, 4, 0), 0);
        due("size(0) of none", x.size(0), NONE);
        due("in(0, 0) of none", x.in(0, 0), NONE);
        due("set(0) of none", x.set(0), NONE);
    }

    // ---- hands

    private static void the200thGroup() {
        sentence("FULL: 200 GROUPS were made.");
        TwoBooks x = made(199);
        due("the 200th by hand", x.hand(3, 3), 199);
        due("the 201st by hand", x.hand(4, 4), FULL);
        due("undo", x.undo() >= 0 ? x.count(2) : -9, 199);
        due("sets", x.sets(0, 3, 1, 0), 1);
        due("the 200th by sets", x.set(0), 199);
        due("sets", x.sets(0, 4, 1, 0), 1);
        due("the 201st by sets", x.set(0), FULL);
        due("parting makes no room", x.part(199), 2);
        due("the 201st by hand", x.hand(3, 3), FULL);
        due("undo of the parting makes none", x.undo() >= 0 ? x.hand(4, 4) : -9, FULL);
        due("undo of the 200th does", x.undo() >= 0 ? x.hand(4, 4) : -9, 199);
        due("the last GROUP", x.group(199, 1), 2);
        due("none behind it", x.group(200, 1), NO_GROUP);
    }

    private static void eightLines() {
        sentence("FULL: it has 8.");
        TwoBooks x = many(many(new TwoBooks(), 0, 8, 10), 1, 8, 10);
        x.hand(0, 0);
        for (int i = 1; i < 7; i++) due("LINES with " + i + " more", x.join(0, 0, i), 2 + i);
        due("a ninth", x.join(0, 0, 7), FULL);
        due("a ninth of book 1", x.join(0, 1, 7), FULL);
        due("LINES", x.group(0, 1), 8);
        due("a BREAK still", x.told(0, 7, 5), -1);
        due("undo", x.undo() >= 0 ? x.group(0, 1) : -9, 7);
        due("an eighth of book 1", x.join(0, 1, 7), 8);
        due("part of eight", x.part(0), 8);
        due("breaks of book 0", x.breaks(0, 0), 8);
        due("breaks of book 1", x.breaks(1, 0), 8);
    }

    private static void joinedSet() {
        sentence("A BREAK comes to a GROUP that is there, whose SORT is HAND from now: how many LINES it has.");
        TwoBooks x = many(desk(of(40, 1, 2, 3, 4), of()), 1, 4, 10);
        x.sets(0, 0, 4, 0);
        x.set(0);
        due("SORT before", x.group(0, 0), SET);
        for (int i = 1; i <= 3; i++) {
            due("join", x.join(0, 0, i), 5 + i);
            due("SORT", x.group(0, 0), HAND);
        }
        due("a ninth", x.join(0, 0, 4), FULL);
        x.undo();
        x.undo();
        due("SORT while one is joined", x.group(0, 0), HAND);
        x.undo();
        due("SORT as it was", x.group(0, 0), SET);
        due("DIFFERENCE as it was", x.group(0, 2), 0);
    }

    private static void lockIs() {
        sentence("A GROUP is LOCKED (1) or not (0): what it was.");
        TwoBooks x = desk(of(10), of(10));
        due("no GROUP yet", x.lock(0, 1), NONE);
        x.hand(0, 0);
        int[][] rows = {{0, 0}, {1, 0}, {1, 1}, {0, 1}, {0, 0}};
        for (int[] row : rows) {
            due("lock(0, " + row[0] + ")", x.lock(0, row[0]), row[1]);
            due("LOCKED", x.group(0, 5), row[0]);
        }
        for (int is : of(-1, 2, LOW, HIGH)) due("lock(0, " + is + ")", x.lock(0, is), NONE);
    }

    // ---- what is left

    private static void ages() {
        sentence("AGE of a BREAK: TODAY less the day from which it is KNOWN.");
        sentence("How many BREAKS a book has that are AGED a at least (a 0 up).");
        TwoBooks x = new TwoBooks();
        due("of an empty book", x.breaks(0, 0), 0);
        x.line(0, 5, 99990000, 0);
        due("on the day itself", x.told(0, 0, 6), 0);
        x.today(10);
        x.line(0, 5, 0, 0);
        due("AGE 10", x.told(0, 0, 6), 10);
        due("AGE 0 on day 10", x.told(0, 1, 6), 0);
        for (int[] row : new int[][] {{0, 2}, {1, 1}, {10, 1}, {11, 0}, {HIGH, 0}, {-1, NONE}, {LOW, NONE}})
            due("breaks(0, " + row[0] + ")", x.breaks(0, row[0]), row[1]);
        x.today(25);
        due("AGE from day 10 to 25", x.told(0, 1, 6), 15);
        x.today(99999);
        due("the greatest AGE", x.told(0, 0, 6), 99999);
        due("breaks(0, 99999)", x.breaks(0, 99999), 1);
        due("breaks(0, 100000)", x.breaks(0, 100000), 0);
        x.line(1, 5, 0, 0);
        x.hand(0, 0);
        due("no AGE in a GROUP", x.told(0, 0, 6), -1);
        due("breaks(0, 99999) without it", x.breaks(0, 99999), 0);
        x.part(0);
        due("AGE from the day it is KNOWN, not from the parting", x.told(0, 0, 6), 99999);
    }

    private static void theIthBreak() {
        sentence("The i-th BREAK of a book.");
        for (int book : of(0, 1)) {
            TwoBooks x = new TwoBooks();
            due("of an empty book", x.broken(book, 0), NONE);
            many(many(x, 0, 4, 5), 1, 4, 5);
            x.hand(0, 0);
            x.hand(2, 2);
            due("the first", x.broken(book, 0), 1);
            due("the second", x.broken(book, 1), 3);
            for (int i : of(-1, 2, 3, LOW, HIGH)) due("broken(" + i + ")", x.broken(book, i), NONE);
            x.part(0);
            due("the first when one is PARTED", x.broken(book, 0), 0);
            due("the last then", x.broken(book, 2), 3);
        }
    }

    private static void asOfADay() {
        sentence("AS of a day d (0 .. TODAY): LINES KNOWN at d or before");
        TwoBooks x = new TwoBooks();
        for (int what = 0; what < 3; what++) {
            due("as(0) of a new one", x.as(0, what), 0);
            due("as(1) of a new one", x.as(1, what), NO_DAY);
        }
        x.today(5);
        x.line(0, 70, 0, 0);
        x.today(8);
        x.line(1, 20, 0, 0);
        int[] many = {0, 0, 0, 0, 0, 1, 1, 1, 2};
        for (int day = 0; day <= 8; day++) {
            due("BREAKS on " + day, x.as(day, 0), many[day]);
            due("sum on " + day, x.as(day, 1), day < 5 ? 0 : day < 8 ? 70 : 50);
        }
        for (int day : of(-1, 9, LOW, HIGH)) for (int what = 0; what < 3; what++) due("as(" + day + ", " + what + ")", x.as(day, what), NO_DAY);
        for (int what : of(-1, 3, LOW, HIGH)) due("as(8, " + what + ")", x.as(8, what), NO_DAY);
        x.today(99999);
        due("the last day", x.as(99999, 0), 2);
        due("a day behind it", x.as(100000, 0), NO_DAY);
    }

    private static void groupsAsOfADay() {
        sentence("GROUPS made at d or before, and not PARTED at d or before (with the LINES that they have, or had when they were PARTED)");
        sentence("BREAKS are the LINES known then that are in none of these.");
        TwoBooks x = desk(of(10, 20, 30), of(10, 1));
        x.today(2);
        x.hand(0, 0);
        x.today(4);
        x.join(0, 0, 1);
        x.today(6);
        x.part(0);
        x.today(8);
        x.hand(1, 1);
        // what the GROUP has, it has from the day it was made on
        long[][] want = {{5, 49, 0}, {5, 49, 0}, {2, 29, 1}, {2, 29, 1}, {2, 29, 1}, {2, 29, 1}, {5, 49, 0}, {5, 49, 0}, {3, 30, 1}};
        for (int day = 0; day <= 8; day++)
            for (int what = 0; what < 3; what++) due("as(" + day + ", " + what + ")", x.as(day, what), want[day][what]);
        x.line(0, 500, 0, 0);
        x.join(1, 0, 3);
        due("a line that was not KNOWN is no BREAK then", x.as(7, 0), 5);
        due("BREAKS now", x.as(8, 0), 3);
        x.part(1);
        due("made and PARTED on one day", x.as(8, 2), 0);
        due("BREAKS then", x.as(8, 0), 6);
    }

    private static void eighteenAtMost() {
        sentence("EXPLAINED: of at most 18 BREAKS and GROUPS with a DIFFERENCE that is not 0, all together");
        sentence("BIG: more than 18 of these");
        for (int book : of(0, 1)) {
            TwoBooks x = many(new TwoBooks(), book, 18, 7);
            due("18 of one book", x.explain(), 18);
            x.line(book, 7, 0, 0);
            due("19 of one book", x.explain(), BIG);
            x.undo();
            due("18 again", x.explain(), 18);
            x.line(1 - book, 7, 0, 0);
            due("18 and one", x.explain(), BIG);
            x.hand(0, 0);
            due("an even GROUP is not counted", x.explain(), 17);
            x.line(book, 7, 0, 0);
            due("18 and an even GROUP", x.explain(), 18);
            x.line(book, 7, 0, 0);
            due("19 and an even GROUP", x.explain(), BIG);
        }
        TwoBooks x = many(many(new TwoBooks(), 0, 9, 7), 1, 9, 5);
        due("9 and 9, 18 coins", x.explain() >= 0 ? x.sum(0) : -9, 18);
        x.line(0, 7, 0, 0);
        due("10 and 9", x.explain(), BIG);
        x.hand(0, 0);
        due("9 and 8, and a GROUP", x.explain() >= 0 ? x.sum(0) : -9, 25);
        x.line(0, 7, 0, 0);
        due("10 and 8, and a GROUP", x.explain(), BIG);
        x.hand(1, 1);
        due("9 and 7, and two GROUPS", x.explain() >= 0 ? x.count(3) : -9, 2);
        x.part(0);
        due("10 and 8, and a GROUP, one PARTED", x.explain(), BIG);
    }

    private static void eighteenGroups() {
        sentence("BREAKS and GROUPS with a DIFFERENCE that is not 0, all together");
        TwoBooks x = many(many(new TwoBooks(), 0, 19, 7), 1, 19, 6);
        for (int i = 0; i < 19; i++) x.hand(i, i);
        due("19 GROUPS, no BREAKS", x.explain(), BIG);
        x.undo();
        due("18 GROUPS, 2 BREAKS", x.explain(), BIG);
        x.join(17, 0, 18);
        due("18 GROUPS, a BREAK", x.explain(), BIG);
        x.join(17, 1, 18);
        due("18 GROUPS, no BREAKS", x.explain(), 18);
        for (int j = 0; j < 18; j++) due("GROUP " + j, x.explained(j, 0) * 100 + x.explained(j, 1), 200 + j);
    }

    private static void theFewestAndTheFirst() {
        sentence("the ones with the fewest; of several the one that comes first, BREAKS of book 0, then of book 1, then GROUPS standing in a row, by the first in which they differ: the one that has it.");
        // 6: {6}, not {1, 5}; then {1, 5} and {2, 4} and {6 of a GROUP}
        TwoBooks x = desk(of(1, 2, 4, 5, 6), of(12));
        due("one of book 0", x.explain() * 100 + x.explained(0, 0) * 10 + x.explained(0, 1), 104);
        x = desk(of(2, 2, 2, 2), of(-2, 2, 4, 2));
        due("two of several", x.sum(0), 2);
        due("one of several", x.explain(), 1);
        due("the first of book 0", x.explained(0, 0) * 100 + x.explained(0, 1), 0);
        x = desk(of(4, 9), of(-5, 9, 4));
        // 5: {-(-5)} of book 1 alone
        due("a BREAK of book 1", x.explain() * 100 + x.explained(0, 0) * 10 + x.explained(0, 1), 110);
        x.line(0, 5, 0, 0);
        x.line(1, 5, 0, 0);
        due("book 0 stands ahead of book 1", x.explain() * 100 + x.explained(0, 0) * 10 + x.explained(0, 1), 102);
        x = desk(of(8, 7), of(3, 7, -5, 5));
        x.hand(0, 0);
        due("book 1 stands ahead of GROUPS", x.explain() * 100 + x.explained(0, 0) * 10 + x.explained(0, 1), 112);
        x.hand(1, 2);
        due("the difference is still", x.sum(0), 5);
        due("then the GROUP", x.explain() * 100 + x.explained(0, 0) * 10 + x.explained(0, 1), 120);
    }

    private static void nothingToExplain() {
        sentence("How many are EXPLAINED by (0 if the DIFFERENCE of the BOOKS is 0).");
        TwoBooks x = new TwoBooks();
        due("of empty books", x.explain(), 0);
        due("nothing is told", x.explained(0, 0), NONE);
        x = desk(of(5, 7), of(7, 5));
        due("of even books", x.explain(), 0);
        due("nothing is told of these", x.explained(0, 0), NONE);
        x.line(0, 1, 0, 0);
        due("one coin", x.explain(), 1);
        due("it", x.explained(0, 1), 2);
        x.line(1, 1, 0, 0);
        due("even again", x.explain(), 0);
        due("nothing is told again", x.explained(0, 1), NONE);
        x = many(many(new TwoBooks(), 0, 9, 5), 1, 9, 5);
        due("even books, 18", x.explain(), 0);
        x.line(0, 5, 0, 0);
        x.line(1, 5, 0, 0);
        due("even books, 20", x.explain(), BIG);
    }

    private static void theJthExplained() {
        sentence("The j-th of the latest explain(): 0 (what 0) a BREAK of book 0, 1 of book 1, 2 a GROUP; 1 its number. NONE.");
        TwoBooks x = desk(of(100, 20), of(1, 50));
        due("before any explain()", x.explained(0, 0), NONE);
        x.hand(0, 0);
        due("explain", x.explain(), 3);
        int[][] want = {{0, 1}, {1, 1}, {2, 0}};
        for (int j = 0; j < 3; j++) for (int what = 0; what < 2; what++) due("explained(" + j + ", " + what + ")", x.explained(j, what), want[j][what]);
        for (int j : of(-1, 3, 17, 18, LOW, HIGH)) for (int what = 0; what < 2; what++) due("explained(" + j + ", " + what + ")", x.explained(j, what), NONE);
        for (int what : of(-1, 2, LOW, HIGH)) for (int j = 0; j < 3; j++) due("explained(" + j + ", " + what + ")", x.explained(j, what), NONE);
        x = many(new TwoBooks(), 0, 18, 7);
        x.explain();
        due("the 18th", x.explained(17, 1), 17);
        due("no 19th", x.explained(18, 1), NONE);
    }

    private static void greatExplanations() {
        sentence("whose AMOUNTS (of book 1 with the contrary sign) and DIFFERENCES together are the DIFFERENCE of the BOOKS");
        for (int sign : of(1, -1)) {
            TwoBooks x = many(many(new TwoBooks(), 0, 9, sign * 1000000), 1, 9, sign * -1000000);
            due("18 of the greatest", x.explain(), 18);
            due("their sum", x.sum(0), sign * 18000000L);
            x = many(many(new TwoBooks(), 0, 40, sign * 1000000), 1, 40, sign * -1000000);
            for (int g = 0; g < 10; g++) {
                x.hand(4 * g, 4 * g);
                for (int i = 1; i < 4; i++) {
                    x.join(g, 0, 4 * g + i);
                    x.join(g, 1, 4 * g + i);
                }
            }
            due("10 of the greatest GROUPS", x.explain(), 10);
            due("their sum", x.sum(3), sign * 80000000L);
        }
    }

    // ---- acts

    private static void sevenActs() {
        sentence("ACTS that can be UNDONE: line, pair, hand, join, set, part, lock");
        TwoBooks x = new TwoBooks();
        due("at first", x.count(4), 0);
        due("undo at first", x.undo(), NONE);
        put(put(x, 0, 5, 6, 7, 8), 1, 5, 6, 7, 9);
        due("line", x.count(4), 8);
        x.best();
        due("best is none", x.count(4), 8);
        x.pair(0);
        due("pair", x.count(4), 11);
        x.hand(3, 3);
        due("hand", x.count(4), 12);
        x.part(0);
        due("part", x.count(4), 13);
        x.join(3, 0, 0);
        due("join", x.count(4), 14);
        x.lock(3, 1);
        due("lock", x.count(4), 15);
        x.part(1);
        x.sets(0, 1, 1, 0);
        due("sets is none", x.count(4), 16);
        x.set(0);
        due("set", x.count(4), 17);
        x.today(0);
        x.terms(5, 0);
        due("today and terms, as they were, are none", x.count(4), 17);
        for (int left = 16; left >= 0; left--) {
            due("undo is none", x.undo(), left);
            due("acts left", x.count(4), left);
        }
        due("no more", x.undo(), NONE);
        due("all is gone", x.count(0) + x.count(1) + x.count(2), 0);
    }

    private static void sixtyActs() {
        sentence("the latest 60 that were carried out and not undone");
        for (int acts : of(59, 60, 61, 62, 75)) {
            TwoBooks x = many(new TwoBooks(), 0, acts, 5);
            int kept = Math.min(60, acts);
            due("acts of " + acts, x.count(4), kept);
            for (int left = kept - 1; left >= 0; left--) due("undo of " + acts, x.undo(), left);
            due("no more of " + acts, x.undo(), NONE);
            due("lines left of " + acts, x.count(0), acts - kept);
            due("the next line of " + acts, x.line(0, 5, 0, 0), acts - kept);
            due("its undo", x.undo(), 0);
        }
        TwoBooks x = many(new TwoBooks(), 1, 60, 5);
        for (int i = 0; i < 45; i++) {
            due("undo", x.undo(), 59);
            due("line", x.line(1, 6 + i, 0, 0), 59);
        }
        due("acts, the ring gone round", x.count(4), 60);
        due("lines", x.count(1), 60);
        for (int left = 59; left >= 0; left--) due("undo of all", x.undo(), left);
        due("no lines", x.count(1), 0);
    }

    private static void pairsAndTheSixty() {
        sentence("the latest 60 that were carried out and not undone");
        TwoBooks x = made(14);
        // 28 lines, 14 pairs, 14 parts are 56; 14 pairs more
        due("acts", x.count(4), 56);
        x.best();
        due("pair", x.pair(0), 14);
        due("acts", x.count(4), 60);
        for (int left = 59; left >= 0; left--) due("undo", x.undo(), left);
        due("no more", x.undo(), NONE);
        due("10 lines stay", x.count(0) + x.count(1), 10);
    }

    private static void undoingEnds() {
        sentence("(when TODAY, SPAN or COINS become other ones, what can be undone ends)");
        TwoBooks x = desk(of(5), of(5));
        x.today(0);
        due("the same TODAY", x.count(4), 2);
        x.terms(5, 0);
        due("the same SPAN and COINS", x.count(4), 2);
        x.today(1);
        due("another TODAY", x.count(4), 0);
        due("undo then", x.undo(), NONE);
        due("the lines stay", x.count(0) + x.count(1), 2);
        x.hand(0, 0);
        x.terms(6, 0);
        due("another SPAN", x.count(4), 0);
        due("undo then", x.undo(), NONE);
        due("the GROUP stays", x.count(3), 1);
        x.lock(0, 1);
        x.terms(6, 1);
        due("other COINS", x.count(4), 0);
        due("undo then", x.undo(), NONE);
        due("LOCKED it stays", x.group(0, 5), 1);
        x.lock(0, 0);
        x.part(0);
        due("undo goes on with new acts", x.undo(), 1);
        due("and no further", x.undo() * 10 + x.undo(), -1);
    }

    private static void numbersAnew() {
        sentence("A LINE, or GROUP, whose coming is undone is gone, its number is given anew; a GROUP whose parting is undone has its LINES again.");
        TwoBooks x = desk(of(5, 6), of(5, 6));
        due("undo of a line", x.undo(), 3);
        due("it is gone", x.told(1, 1, 0), NO_LINE);
        due("its number", x.line(1, 77, 30009, 4), 1);
        int[] want = {77, 3, 4, 9, 0, -1, 0};
        for (int what = 0; what < 7; what++) due("told(1, 1, " + what + ")", x.told(1, 1, what), want[what]);
        x.hand(0, 0);
        x.lock(0, 1);
        x.undo();
        x.undo();
        due("the GROUP is gone", x.group(0, 0), NO_GROUP);
        due("its lines are BREAKS", x.told(0, 0, 5) + x.told(1, 0, 5), -2);
        x.sets(0, 1, 1, 1);
        due("its number", x.set(0), 0);
        due("SORT", x.group(0, 0), SET);
        due("not LOCKED", x.group(0, 5), 0);
        due("its lines", x.told(0, 1, 5) + x.told(1, 0, 5), 0);
        x.join(0, 1, 1);
        due("part", x.part(0), 3);
        due("PARTED", x.group(0, 4), 0);
        x.undo();
        due("there again", x.group(0, 4), -1);
        due("its LINES again", x.group(0, 1), 3);
        for (int b = 0; b < 2; b++) due("line " + b + " of book 1", x.told(1, b, 5), 0);
        due("line 1 of book 0", x.told(0, 1, 5), 0);
        due("LOCKED undone", x.lock(0, 1) * 10 + (x.undo() >= 0 ? x.group(0, 5) : -9), 0);
    }

    /** A GROUP that is undone is not there for any call. */
    private static void undoneGroupsAreGone() {
        sentence("A LINE, or GROUP, whose coming is undone is gone");
        TwoBooks x = desk(of(5, 6), of(5, 9));
        x.hand(1, 1);
        due("it is learnt from", x.fit(0, 0), 140);
        x.undo();
        due("it is not learnt from", x.fit(0, 0), 130);
        for (int what = 0; what < 6; what++) due("group(0, " + what + ")", x.group(0, what), NO_GROUP);
        due("part", x.part(0), NONE);
        due("lock", x.lock(0, 1), NONE);
        due("join", x.join(0, 0, 1), NONE);
        due("acts", x.count(4), 4);
        due("GROUPS made and there", x.count(2) + x.count(3), 0);
        due("DIFFERENCES", x.sum(3), 0);
        due("GROUPS as of today", x.as(0, 2), 0);
        due("BREAKS as of today", x.as(0, 0), 4);
        // -3 of 5, 6, -5, -9, and no GROUP of -3: {6, -9}
        due("explain", x.explain(), 2);
        due("its first", x.explained(0, 0) * 10 + x.explained(0, 1), 1);
        due("its second", x.explained(1, 0) * 10 + x.explained(1, 1), 11);
        many(many(x, 0, 8, 1), 1, 6, 1);
        due("18 BREAKS and none besides", x.explain() >= 0 ? 1 : 0, 1);
        due("check", x.check(), 0);
    }

    // ---- answers

    private static void theFirstThatACallNames() {
        sentence("Answers, the first that a call names: NONE (-1): there is no such thing, or a number is not as said; TAKEN (-2): a LINE is no BREAK; LOCKED (-3); BIG (-4): as told; FULL (-5).");
        TwoBooks full = many(new TwoBooks(), 0, 80, 5);
        due("line: NONE ahead of FULL, amount", full.line(0, 0, 0, 0), NONE);
        due("line: NONE ahead of FULL, dayMark", full.line(0, 5, -1, 0), NONE);
        due("line: NONE ahead of FULL, word", full.line(0, 5, 0, 100), NONE);
        due("line: FULL", full.line(0, 5, 0, 0), FULL);
        TwoBooks x = many(many(new TwoBooks(), 0, 9, 5), 1, 9, 5);
        x.hand(0, 0);
        for (int i = 1; i < 7; i++) x.join(0, 0, i);
        due("join: NONE ahead of TAKEN, group", x.join(1, 0, 0), NONE);
        due("join: NONE ahead of FULL, line", x.join(0, 0, 9), NONE);
        due("join: TAKEN ahead of FULL", x.join(0, 0, 0), TAKEN);
        due("join: FULL", x.join(0, 0, 7), FULL);
        x.lock(0, 1);
        due("join: NONE ahead of LOCKED, line", x.join(0, 0, 9), NONE);
        due("join: NONE ahead of LOCKED, book", x.join(0, 2, 7), NONE);
        due("join: TAKEN ahead of LOCKED", x.join(0, 0, 0), TAKEN);
        due("join: LOCKED ahead of FULL", x.join(0, 0, 7), LOCKED);
        due("lock: NONE of a LOCKED one", x.lock(0, 2), NONE);
        due("sets: NONE ahead of TAKEN, m", x.sets(0, 0, 5, 0), NONE);
        due("sets: NONE ahead of TAKEN, e", x.sets(0, 0, 1, -1), NONE);
        due("sets: TAKEN", x.sets(0, 0, 1, 0), TAKEN);
        due("hand: NONE ahead of TAKEN", x.hand(0, 9), NONE);
        due("hand: NONE ahead of TAKEN, book 0", x.hand(9, 0), NONE);
        due("hand: TAKEN", x.hand(0, 8), TAKEN);
    }

    private static void theFirstOfAFullDesk() {
        sentence("Answers, the first that a call names");
        TwoBooks x = made(199);
        x.hand(0, 0);
        due("hand: NONE ahead of FULL", x.hand(14, 1), NONE);
        due("hand: NONE ahead of TAKEN and FULL", x.hand(0, 14), NONE);
        due("hand: TAKEN ahead of FULL", x.hand(0, 1), TAKEN);
        due("hand: TAKEN ahead of FULL, book 1", x.hand(1, 0), TAKEN);
        due("hand: FULL", x.hand(1, 1), FULL);
        x.sets(0, 1, 1, 0);
        due("set: NONE ahead of FULL", x.set(1), NONE);
        due("set: FULL", x.set(0), FULL);
        x.best();
        due("pair: NONE ahead of FULL, sure", x.pair(1001), NONE);
        due("pair: FULL", x.pair(0), FULL);
        x.lock(0, 0);
        x.lock(199, 0);
        due("set: NONE ahead of FULL, something was done", x.set(0), NONE);
        due("pair: NONE ahead of FULL, something was done", x.pair(0), NONE);
    }

    private static void theLastCalls() {
        sentence("An object is used for at most 512 calls after it has been made");
        TwoBooks x = many(many(new TwoBooks(), 0, 80, 7), 1, 80, 7);
        int calls = 160;
        while (calls < 508) {
            x.hand(calls % 80, 0);
            x.undo();
            calls += 2;
        }
        due("hand, the 509th", x.hand(79, 79), 0);
        due("the 510th", x.sum(3), 0);
        due("the 511th", x.check(), 0);
        due("the 512th", x.undo(), 59);
    }

    private static void counts() {
        sentence("How many: 0, 1 LINES of a book, 2 GROUPS made, 3 of these there, 4 acts that can be undone, 5 TODAY. NONE.");
        TwoBooks x = new TwoBooks();
        for (int what = 0; what <= 5; what++) due("count(" + what + ") at first", x.count(what), 0);
        for (int what : of(-1, 6, LOW, HIGH)) due("count(" + what + ")", x.count(what), NONE);
        x.today(99999);
        due("TODAY", x.count(5), 99999);
        TwoBooks full = made(200);
        due("GROUPS made", full.count(2), 200);
        due("none there", full.count(3), 0);
        due("acts", full.count(4), 60);
        full.undo();
        due("one there", full.count(3), 1);
        due("made still", full.count(2), 200);
        full.undo();
        due("made", full.count(2), 199);
    }

    private static void noSuchLine() {
        sentence("-2000000: there is no such LINE, or what.");
        TwoBooks x = desk(of(5, 6), of(7));
        due("the last of book 0", x.told(0, 1, 0), 6);
        due("the last of book 1", x.told(1, 0, 0), 7);
        due("behind it", x.told(0, 2, 0), NO_LINE);
        due("behind that of book 1", x.told(1, 1, 0), NO_LINE);
        for (int i : of(-1, 79, 80, LOW, HIGH)) due("line " + i, x.told(0, i, 0), NO_LINE);
        for (int book : of(-1, 2, LOW, HIGH)) due("book " + book, x.told(book, 0, 0), NO_LINE);
        due("what 6", x.told(0, 0, 6), 0);
        for (int what : of(-1, 7, LOW, HIGH)) due("what " + what, x.told(0, 0, what), NO_LINE);
        for (int a : of(-1, 2, 79, 80, LOW, HIGH)) due("fit(" + a + ", 0)", x.fit(a, 0), NONE);
        for (int b : of(-1, 1, 79, 80, LOW, HIGH)) due("fit(0, " + b + ")", x.fit(0, b), NONE);
    }

    private static void noSuchGroup() {
        sentence("-20000000: no such GROUP, what.");
        TwoBooks x = desk(of(5), of(5));
        due("none made", x.group(0, 0), NO_GROUP);
        x.hand(0, 0);
        int[] want = {HAND, 2, 0, 0, -1, 0};
        for (int what = 0; what < 6; what++) due("group(0, " + what + ")", x.group(0, what), want[what]);
        for (int what : of(-1, 6, LOW, HIGH)) due("group(0, " + what + ")", x.group(0, what), NO_GROUP);
        for (int g : of(-1, 1, 199, 200, LOW, HIGH)) due("group(" + g + ", 0)", x.group(g, 0), NO_GROUP);
        for (int g : of(-1, 1, 199, 200, LOW, HIGH)) {
            due("part(" + g + ")", x.part(g), NONE);
            due("lock(" + g + ", 1)", x.lock(g, 1), NONE);
            due("join(" + g + ", 0, 0)", x.join(g, 0, 0), NONE);
        }
        x.part(0);
        due("part of a PARTED one", x.part(0), NONE);
        due("lock of a PARTED one", x.lock(0, 1), NONE);
        due("join to a PARTED one", x.join(0, 0, 0), NONE);
        due("it is told of", x.group(0, 4), 0);
    }

    public static void main(String[] args) {
        linesOfABook(); bothBooksFull(); amounts(); daysAndMarks(); words(); todayAndKnown(); todayUpTo();
        leastGroup(); groupNumbers(); groupDifference(); partedAsOfToday(); oneGroupAtMost(); lockedCantBeParted();
        differenceOfTheBooks(); anotherSum();
        termsAtFirst(); daysApart(); coinsApart(); twoMarks(); wholeHundreds(); oneWord(); atLeastOne();
        handsCounted(); handsOfOtherWords(); onlyHandsAreLearntFrom();
        fourteenOfEach(); greatestWorth(); firstOfSeveral(); firstOfARing(10, 6, 2 * 100 + 2 * 88); firstOfARing(10000, 90, 4); firstOfARow(); noneIsGreaterThanAll();
        rivals(); rivalsOfEachPair(); atMostSure(); pairUpToFull(); oneActForEach();
        oneToM(); theLastFourOf80(); offByAtMost(); offInTwosThreesAndFours(); setsWithinSpan(); orderOfSets(); upToThe5000th(); setOfFive(); toldSets();
        the200thGroup(); eightLines(); joinedSet(); lockIs();
        ages(); theIthBreak(); asOfADay(); groupsAsOfADay();
        eighteenAtMost(); eighteenGroups(); theFewestAndTheFirst(); nothingToExplain(); theJthExplained(); greatExplanations();
        sevenActs(); sixtyActs(); pairsAndTheSixty(); undoingEnds(); numbersAnew(); undoneGroupsAreGone();
        theFirstThatACallNames(); theFirstOfAFullDesk(); theLastCalls(); counts(); noSuchLine(); noSuchGroup();
        end("all bounds are kept");
    }
}
