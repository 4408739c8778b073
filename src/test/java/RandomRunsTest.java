import java.util.ArrayList;
import java.util.List;
import java.util.Random;

/**
 * Runs of calls by chance (with fixed seeds), answered by TwoBooks and by PlainDesk: they must agree. A run ends
 * with the 512 calls for which the document speaks, or shortly before.
 */
public final class RandomRunsTest {
    private static final int RUNS = 2000;
    private static final int CALLS = 512;
    private static final int MOST_AT_ONCE = 45;

    private final Random chance;
    private final TwoBooks desk = new TwoBooks();
    private final PlainDesk plain = new PlainDesk();
    private final List<String> told = new ArrayList<>();
    private final int amounts, days, words, marks, wild, bookLimit, curious;
    private int calls = 0;
    private int searches = 0;

    private RandomRunsTest(long seed) {
        chance = new Random(seed);
        amounts = pick(3, 20, 300, 1000000);
        days = pick(1, 4, 15, 9999);
        words = pick(1, 3, 100);
        marks = pick(1, 2, 4, 10000);
        wild = pick(0, 5, 20);
        bookLimit = pick(3, 7, 9, 14, 15, 80);
        curious = pick(2, 10, 30);
    }

    private int pick(int... from) {
        return from[chance.nextInt(from.length)];
    }

    private int upTo(int most) {
        if (chance.nextInt(100) < wild) {
            return pick(-1, most + 1, most + 2, -5, Integer.MIN_VALUE, Integer.MAX_VALUE, 1000, 10001, 5000);
        }
        return chance.nextInt(most + 1);
    }

    private int amount() {
        int size = 1 + chance.nextInt(amounts);
        if (chance.nextInt(100) < wild) return pick(0, 1000000, -1000000, 1000001, -1000001, Integer.MIN_VALUE);
        return chance.nextInt(4) == 0 ? -size : size;
    }

    private boolean same(String call, long got, long want) {
        calls++;
        told.add(call + " answered " + got);
        if (got != want) {
            for (String row : told) System.out.println(row);
            System.out.println("  due is " + want);
        }
        return got == want;
    }

    private int line(int book) {
        return upTo(plain.count(book));
    }

    private int group() {
        return upTo(plain.count(2));
    }

    private boolean comingLine() {
        int book = upTo(1);
        if ((book == 0 || book == 1) && plain.breaks(book, 0) >= bookLimit) return true;
        int amount = amount(), dayMark = upTo(days - 1) * 10000 + upTo(marks - 1), word = upTo(words - 1);
        return same("line(" + book + ", " + amount + ", " + dayMark + ", " + word + ")",
                desk.line(book, amount, dayMark, word), plain.line(book, amount, dayMark, word));
    }

    private boolean wholePairing() {
        boolean big = plain.breaks(0, 0) > 9 && plain.breaks(1, 0) > 9;
        if (big && searches++ > 2) return true;
        boolean good = same("best()", desk.best(), plain.best()) && toldPair(upTo(80)) && toldPair(line(0));
        for (int r = 0; r < 15 && plain.broken(0, r) >= 0; r++) good &= toldPair(plain.broken(0, r));
        return good;
    }

    private boolean toldPair(int a) {
        return same("with(" + a + ")", desk.with(a), plain.with(a)) && same("rival(" + a + ")", desk.rival(a), plain.rival(a));
    }

    private boolean pairs() {
        int sure = chance.nextInt(3) == 0 ? upTo(1000) : chance.nextInt(40);
        return same("pair(" + sure + ")", desk.pair(sure), plain.pair(sure));
    }

    private boolean wholeSets() {
        int book = upTo(1), i = line(book == 1 ? 1 : 0), m = 1 + upTo(3), e = chance.nextBoolean() ? upTo(amounts - 1) % 10001 : upTo(10000);
        if (plain.breaks(0, 0) + plain.breaks(1, 0) > 80 && searches++ > 8) return true;
        int many = plain.sets(book, i, m, e);
        boolean good = same("sets(" + book + ", " + i + ", " + m + ", " + e + ")", desk.sets(book, i, m, e), many);
        good &= toldSet(many - 1) && toldSet(many) && toldSet(upTo(5000));
        for (int n = 0; n < 3; n++) good &= toldSet(chance.nextInt(Math.max(many, 1)));
        return good;
    }

    private boolean toldSet(int k) {
        boolean good = same("size(" + k + ")", desk.size(k), plain.size(k));
        for (int j = 0; j <= Math.max(0, plain.size(k)); j++) good &= same("in(" + k + ", " + j + ")", desk.in(k, j), plain.in(k, j));
        return good;
    }

    private boolean makesSet() {
        int k = chance.nextInt(3) == 0 ? upTo(5000) : chance.nextInt(10);
        return same("set(" + k + ")", desk.set(k), plain.set(k));
    }

    private boolean wholeExplanation() {
        boolean big = plain.breaks(0, 0) + plain.breaks(1, 0) > 12;
        if (big && searches++ > 8) return true;
        boolean good = same("explain()", desk.explain(), plain.explain());
        for (int j = 0; j < 19 && (j == 0 || plain.explained(j - 1, 0) >= 0); j++) good &= toldThing(j, 0) && toldThing(j, 1);
        return good && toldThing(upTo(18), upTo(1));
    }

    private boolean toldThing(int j, int what) {
        return same("explained(" + j + ", " + what + ")", desk.explained(j, what), plain.explained(j, what));
    }

    private boolean byHand() {
        int a = line(0), b = line(1), g = group(), book = upTo(1), i = line(book == 1 ? 1 : 0), is = upTo(1);
        switch (chance.nextInt(7)) {
            case 0: case 1: return same("hand(" + a + ", " + b + ")", desk.hand(a, b), plain.hand(a, b));
            case 2: case 3: return same("join(" + g + ", " + book + ", " + i + ")", desk.join(g, book, i), plain.join(g, book, i));
            case 4: return same("part(" + g + ")", desk.part(g), plain.part(g));
            case 5: return same("lock(" + g + ", " + is + ")", desk.lock(g, is), plain.lock(g, is));
            default: return same("fit(" + a + ", " + b + ")", desk.fit(a, b), plain.fit(a, b));
        }
    }

    private boolean timesAndTerms() {
        int d = plain.count(5) + chance.nextInt(4) - 1, span = upTo(chance.nextBoolean() ? 9 : 99), e = chance.nextBoolean() ? upTo(10) : upTo(10000);
        if (chance.nextInt(3) > 0) return same("today(" + d + ")", desk.today(d), plain.today(d));
        return same("terms(" + span + ", " + e + ")", desk.terms(span, e), plain.terms(span, e));
    }

    private boolean undoes() {
        boolean good = true;
        for (int n = chance.nextInt(4); n >= 0; n--) good &= same("undo()", desk.undo(), plain.undo());
        return good;
    }

    private boolean looks() {
        boolean good = same("check()", desk.check(), plain.check());
        for (int n = chance.nextInt(12); n >= 0 && good; n--) good = look();
        return good;
    }

    private boolean look() {
        int book = upTo(1), i = line(book == 1 ? 1 : 0), g = group(), day = upTo(plain.count(5)), what = upTo(7);
        switch (chance.nextInt(7)) {
            case 0: return same("count(" + what + ")", desk.count(what), plain.count(what));
            case 1: return same("sum(" + what + ")", desk.sum(what), plain.sum(what));
            case 2: return same("told(" + book + ", " + i + ", " + what + ")", desk.told(book, i, what), plain.told(book, i, what));
            case 3: return same("group(" + g + ", " + what + ")", desk.group(g, what), plain.group(g, what));
            case 4: return same("as(" + day + ", " + what / 2 + ")", desk.as(day, what / 2), plain.as(day, what / 2));
            case 5: return same("breaks(" + book + ", " + what + ")", desk.breaks(book, what), plain.breaks(book, what));
            default: return same("broken(" + book + ", " + i + ")", desk.broken(book, i), plain.broken(book, i));
        }
    }

    private boolean asks() {
        int which = chance.nextInt(20);
        if (which < 6) return wholePairing();
        if (which < 11) return wholeSets();
        if (which < 14) return wholeExplanation();
        return looks();
    }

    /** PAIRINGS and SETS last only until something is done, so what is made of them comes at once, mostly. */
    private boolean does() {
        int which = chance.nextInt(90);
        if (which < 40) return comingLine();
        if (which < 46) return wholePairing() && pairs();
        if (which < 50) return wholeSets() && makesSet();
        if (which < 52) return pairs();
        if (which < 54) return makesSet();
        if (which < 81) return byHand();
        if (which < 84) return timesAndTerms();
        return undoes();
    }

    private boolean run() {
        boolean good = true;
        for (int turn = 0; turn < CALLS && calls + MOST_AT_ONCE <= CALLS && good; turn++)
            good = chance.nextInt(100) < curious ? asks() : does();
        return good;
    }

    public static void main(String[] args) {
        int runs = args.length > 0 ? Integer.parseInt(args[0]) : RUNS;
        int first = args.length > 1 ? Integer.parseInt(args[1]) : 1;
        for (int seed = first; seed < first + runs; seed++) {
            if (!new RandomRunsTest(seed).run()) {
                System.out.println("run by chance " + seed + " is wrong");
                System.exit(1);
            }
        }
        System.out.println("runs by chance: " + runs + " agree");
    }
}
