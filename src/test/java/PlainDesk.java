import java.util.ArrayDeque;
import java.util.ArrayList;
import java.util.Deque;
import java.util.List;

/**
 * The document in its plainest form, without a thought of speed: every search tries all there is, and undo
 * puts back a whole copy of what was. RandomRunsTest holds TwoBooks against it.
 */
final class PlainDesk {
    record Line(int amount, int day, int mark, int word, int known) { }

    record Member(int book, int line) { }

    static final class Group {
        int sort, made, parted = -1, locked;
        List<Member> members = new ArrayList<>();

        Group copy() {
            Group other = new Group();
            other.sort = sort;
            other.made = made;
            other.parted = parted;
            other.locked = locked;
            other.members = new ArrayList<>(members);
            return other;
        }
    }

    static final class State {
        final List<List<Line>> books = List.of(new ArrayList<>(), new ArrayList<>());
        final List<Group> groups = new ArrayList<>();

        State copy() {
            State other = new State();
            other.books.get(0).addAll(books.get(0));
            other.books.get(1).addAll(books.get(1));
            for (Group g : groups) other.groups.add(g.copy());
            return other;
        }
    }

    private State now = new State();
    private final Deque<State> past = new ArrayDeque<>();
    private int today = 0, span = 5, coins = 0;
    private boolean pairingFresh = false, setsFresh = false;
    private int[] partner = new int[0], rivals = new int[0];
    private List<List<Integer>> sets = new ArrayList<>();
    private int setsBook, setsLine;
    private List<int[]> explained = new ArrayList<>();

    private void before() {
        past.addLast(now.copy());
        if (past.size() > 60) past.removeFirst();
        stale();
    }

    private void stale() {
        pairingFresh = false;
        setsFresh = false;
    }

    private boolean has(int book, int i) {
        return (book == 0 || book == 1) && i >= 0 && i < now.books.get(book).size();
    }

    private Line at(int book, int i) {
        return now.books.get(book).get(i);
    }

    private boolean there(int g) {
        return g >= 0 && g < now.groups.size() && now.groups.get(g).parted < 0;
    }

    private int groupOf(int book, int i) {
        for (int g = 0; g < now.groups.size(); g++)
            if (there(g) && now.groups.get(g).members.contains(new Member(book, i))) return g;
        return -1;
    }

    private List<Integer> open(int book) {
        List<Integer> all = new ArrayList<>();
        for (int i = 0; i < now.books.get(book).size(); i++) if (groupOf(book, i) < 0) all.add(i);
        return all;
    }

    private int difference(Group g) {
        int sum = 0;
        for (Member m : g.members) sum += (m.book == 0 ? 1 : -1) * at(m.book, m.line).amount;
        return sum;
    }

    int line(int book, int amount, int dayMark, int word) {
        if (book < 0 || book > 1 || amount == 0 || amount < -1000000 || amount > 1000000) return -1;
        if (dayMark < 0 || dayMark / 10000 > 9999 || word < 0 || word > 99) return -1;
        if (now.books.get(book).size() == 80) return -5;
        before();
        now.books.get(book).add(new Line(amount, dayMark / 10000, dayMark % 10000, word, today));
        return now.books.get(book).size() - 1;
    }

    int today(int d) {
        if (d < today || d > 99999) return -1;
        int was = today;
        today = d;
        if (was != d) {
            past.clear();
            stale();
        }
        return was;
    }

    int terms(int newSpan, int newCoins) {
        if (newSpan < 0 || newSpan > 99 || newCoins < 0 || newCoins > 10000) return -1;
        if (span != newSpan || coins != newCoins) {
            past.clear();
            stale();
        }
        span = newSpan;
        coins = newCoins;
        return 1;
    }

    int told(int book, int i, int what) {
        if (!has(book, i) || what < 0 || what > 6) return -2000000;
        Line l = at(book, i);
        int group = groupOf(book, i);
        return new int[] {l.amount, l.day, l.word, l.mark, l.known, group, group < 0 ? today - l.known : -1}[what];
    }

    int fit(int a, int b) {
        if (!has(0, a) || !has(1, b)) return -1;
        Line x = at(0, a), y = at(1, b);
        if (Math.abs(x.day - y.day) > span || Math.abs(x.amount - y.amount) > coins) return 0;
        if (x.mark != 0 && y.mark != 0 && x.mark != y.mark) return 0;
        int hands = 0;
        for (int g = 0; g < now.groups.size(); g++) {
            boolean first = false, second = false;
            for (Member m : now.groups.get(g).members) {
                first |= m.book == 0 && at(0, m.line).word == x.word;
                second |= m.book == 1 && at(1, m.line).word == y.word;
            }
            if (there(g) && now.groups.get(g).sort == 2 && first && second) hands++;
        }
        int fit = 100 - 2 * Math.abs(x.day - y.day) - Math.abs(x.amount - y.amount) / 100;
        if (x.mark != 0 && x.mark == y.mark) fit += 50;
        if (x.word == y.word) fit += 30;
        return Math.max(1, fit + 10 * Math.min(5, hands));
    }

    /** The greatest worth of the rows from r on, for each mask of columns that are taken already. */
    private static int[][] worths(int[][] fits, int columns) {
        int[][] best = new int[fits.length + 1][1 << columns];
        for (int r = fits.length - 1; r >= 0; r--)
            for (int mask = 0; mask < 1 << columns; mask++) {
                int most = best[r + 1][mask];
                for (int c = 0; c < columns; c++)
                    if (fits[r][c] > 0 && (mask >> c & 1) == 0)
                        most = Math.max(most, fits[r][c] + best[r + 1][mask | 1 << c]);
                best[r][mask] = most;
            }
        return best;
    }

    int best() {
        List<Integer> rows = open(0), columns = open(1);
        if (rows.size() > 14 || columns.size() > 14) return -4;
        int[][] fits = new int[rows.size()][columns.size()];
        for (int r = 0; r < rows.size(); r++)
            for (int c = 0; c < columns.size(); c++) fits[r][c] = fit(rows.get(r), columns.get(c));
        int[][] best = worths(fits, columns.size());
        int total = best[0][0];
        partner = new int[80];
        rivals = new int[80];
        java.util.Arrays.fill(partner, -1);
        java.util.Arrays.fill(rivals, 1);
        int mask = 0;
        for (int r = 0; r < rows.size(); r++)
            for (int c = 0; c < columns.size(); c++)
                if (fits[r][c] > 0 && (mask >> c & 1) == 0
                        && best[r][mask] == fits[r][c] + best[r + 1][mask | 1 << c]) {
                    partner[rows.get(r)] = columns.get(c);
                    mask |= 1 << c;
                    int had = fits[r][c];
                    fits[r][c] = 0;
                    rivals[rows.get(r)] = worths(fits, columns.size())[0][0] - total;
                    fits[r][c] = had;
                    break;
                }
        pairingFresh = true;
        return total;
    }

    int with(int a) {
        return pairingFresh && a >= 0 && a < 80 ? partner[a] : -1;
    }

    int rival(int a) {
        return pairingFresh && a >= 0 && a < 80 ? rivals[a] : 1;
    }

    private int make(int sort, List<Member> members) {
        before();
        Group g = new Group();
        g.sort = sort;
        g.made = today;
        g.members.addAll(members);
        now.groups.add(g);
        return now.groups.size() - 1;
    }

    int pair(int sure) {
        if (sure < 0 || sure > 1000 || !pairingFresh) return -1;
        List<Integer> chosen = new ArrayList<>();
        for (int a = 0; a < 80; a++) if (partner[a] >= 0 && rivals[a] <= -sure) chosen.add(a);
        if (now.groups.size() == 200 || now.groups.size() + chosen.size() > 200) return -5;
        for (int a : chosen) make(0, List.of(new Member(0, a), new Member(1, partner[a])));
        return chosen.size();
    }

    private void choose(List<Integer> from, int next, int left, int rest, List<Integer> chosen, int e) {
        if (left == 0) {
            if (Math.abs(rest) <= e && sets.size() < 5000) sets.add(new ArrayList<>(chosen));
            return;
        }
        for (int k = next; k < from.size(); k++) {
            chosen.add(from.get(k));
            choose(from, k + 1, left - 1, rest - at(1 - setsBook, from.get(k)).amount, chosen, e);
            chosen.remove(chosen.size() - 1);
        }
    }

    int sets(int book, int i, int m, int e) {
        if (!has(book, i) || m < 1 || m > 4 || e < 0 || e > 10000) return -1;
        if (groupOf(book, i) >= 0) return -2;
        sets = new ArrayList<>();
        setsBook = book;
        setsLine = i;
        List<Integer> near = new ArrayList<>();
        for (int k : open(1 - book)) if (Math.abs(at(1 - book, k).day - at(book, i).day) <= span) near.add(k);
        for (int size = 1; size <= m; size++) choose(near, 0, size, at(book, i).amount, new ArrayList<>(), e);
        setsFresh = true;
        return sets.size();
    }

    int size(int k) {
        return k >= 0 && k < sets.size() ? sets.get(k).size() : -1;
    }

    int in(int k, int j) {
        return k >= 0 && k < sets.size() && j >= 0 && j < sets.get(k).size() ? sets.get(k).get(j) : -1;
    }

    int set(int k) {
        if (k < 0 || k >= sets.size() || !setsFresh) return -1;
        if (now.groups.size() == 200) return -5;
        List<Member> members = new ArrayList<>();
        members.add(new Member(setsBook, setsLine));
        for (int i : sets.get(k)) members.add(new Member(1 - setsBook, i));
        return make(1, members);
    }

    int hand(int a, int b) {
        if (!has(0, a) || !has(1, b)) return -1;
        if (groupOf(0, a) >= 0 || groupOf(1, b) >= 0) return -2;
        if (now.groups.size() == 200) return -5;
        return make(2, List.of(new Member(0, a), new Member(1, b)));
    }

    int join(int group, int book, int i) {
        if (!there(group) || !has(book, i)) return -1;
        if (groupOf(book, i) >= 0) return -2;
        if (now.groups.get(group).locked == 1) return -3;
        if (now.groups.get(group).members.size() == 8) return -5;
        before();
        now.groups.get(group).sort = 2;
        now.groups.get(group).members.add(new Member(book, i));
        return now.groups.get(group).members.size();
    }

    int part(int group) {
        if (!there(group)) return -1;
        if (now.groups.get(group).locked == 1) return -3;
        before();
        now.groups.get(group).parted = today;
        return now.groups.get(group).members.size();
    }

    int lock(int group, int is) {
        if (!there(group) || is < 0 || is > 1) return -1;
        before();
        int was = now.groups.get(group).locked;
        now.groups.get(group).locked = is;
        return was;
    }

    int group(int g, int what) {
        if (g < 0 || g >= now.groups.size() || what < 0 || what > 5) return -20000000;
        Group x = now.groups.get(g);
        return new int[] {x.sort, x.members.size(), difference(x), x.made, x.parted, x.locked}[what];
    }

    int breaks(int book, int a) {
        if (book < 0 || book > 1 || a < 0) return -1;
        int many = 0;
        for (int i : open(book)) if (today - at(book, i).known >= a) many++;
        return many;
    }

    int broken(int book, int i) {
        if (book < 0 || book > 1) return -1;
        List<Integer> all = open(book);
        return i >= 0 && i < all.size() ? all.get(i) : -1;
    }

    long sum(int what) {
        long sum = 0;
        if (what == 0) {
            for (Line l : now.books.get(0)) sum += l.amount;
            for (Line l : now.books.get(1)) sum -= l.amount;
        }
        if (what == 1 || what == 2) for (int i : open(what - 1)) sum += at(what - 1, i).amount;
        if (what == 3) for (int g = 0; g < now.groups.size(); g++) if (there(g)) sum += difference(now.groups.get(g));
        return sum;
    }

    long as(int day, int what) {
        if (day < 0 || day > today || what < 0 || what > 2) return -2000000000000L;
        List<Group> then = new ArrayList<>();
        for (Group g : now.groups) if (g.made <= day && (g.parted < 0 || g.parted > day)) then.add(g);
        long many = 0, sum = 0;
        for (int book = 0; book < 2; book++)
            for (int i = 0; i < now.books.get(book).size(); i++) {
                boolean in = false;
                for (Group g : then) in |= g.members.contains(new Member(book, i));
                if (at(book, i).known <= day && !in) {
                    many++;
                    sum += (book == 0 ? 1 : -1) * at(book, i).amount;
                }
            }
        return what == 0 ? many : what == 1 ? sum : then.size();
    }

    int explain() {
        List<int[]> row = new ArrayList<>();
        for (int i : open(0)) row.add(new int[] {0, i, at(0, i).amount});
        for (int i : open(1)) row.add(new int[] {1, i, -at(1, i).amount});
        for (int g = 0; g < now.groups.size(); g++)
            if (there(g) && difference(now.groups.get(g)) != 0)
                row.add(new int[] {2, g, difference(now.groups.get(g))});
        if (row.size() > 18) return -4;
        int best = -1;
        for (int mask = 0; mask < 1 << row.size(); mask++) {
            long sum = 0;
            for (int k = 0; k < row.size(); k++) if ((mask >> k & 1) == 1) sum += row.get(k)[2];
            if (sum == sum(0) && (best < 0 || comesBefore(mask, best))) best = mask;
        }
        if (best < 0) return -6;
        explained = new ArrayList<>();
        for (int k = 0; k < row.size(); k++) if ((best >> k & 1) == 1) explained.add(row.get(k));
        return explained.size();
    }

    private static boolean comesBefore(int mask, int other) {
        if (Integer.bitCount(mask) != Integer.bitCount(other)) return Integer.bitCount(mask) < Integer.bitCount(other);
        int differ = Integer.lowestOneBit(mask ^ other);
        return (mask & differ) != 0;
    }

    int explained(int j, int what) {
        return j >= 0 && j < explained.size() && what >= 0 && what <= 1 ? explained.get(j)[what] : -1;
    }

    int undo() {
        if (past.isEmpty()) return -1;
        now = past.removeLast();
        stale();
        return past.size();
    }

    int count(int what) {
        int there = 0;
        for (Group g : now.groups) if (g.parted < 0) there++;
        if (what < 0 || what > 5) return -1;
        return new int[] {now.books.get(0).size(), now.books.get(1).size(), now.groups.size(), there, past.size(), today}[what];
    }

    int check() {
        return 0;
    }
}
