import java.util.ArrayList;
import java.util.List;

/**
 * Two desks of one past, of which one is called once more: if that call changed nothing, then both answer alike
 * whatever is done next and whatever they are asked then. Every few questions have twins of their own, so that no
 * desk is called more than 512 times.
 */
final class Twins extends DueAnswers {
    interface Past {
        TwoBooks desk();
    }

    interface Call {
        long to(TwoBooks x);
    }

    private record Named(String name, Call call) { }

    private static final int ASKED_AT_ONCE = 100;

    private static final List<Named> NEXT = List.of(
            new Named("nothing", x -> 0),
            new Named("undo()", x -> x.undo()),
            new Named("undo() of all", x -> undoAll(x)),
            new Named("pair(0)", x -> x.pair(0)),
            new Named("pair(150)", x -> x.pair(150)),
            new Named("set(0)", x -> x.set(0)),
            new Named("line to book 0", x -> x.line(0, 5, 20003, 1)),
            new Named("line to book 1", x -> x.line(1, 5, 20003, 1)),
            new Named("hand on the first breaks", x -> x.hand(x.broken(0, 0), x.broken(1, 0))),
            new Named("the day after", x -> x.today(x.count(5) + 1)),
            new Named("other terms", x -> x.terms(6, 7)));

    private static long undoAll(TwoBooks x) {
        long undone = 0;
        while (x.undo() >= 0) undone++;
        return undone;
    }

    /** The call answers as due and leaves the desk as it was. */
    static void changesNothing(String name, Past past, Call call, long want) {
        List<Named> questions = questions(past.desk());
        for (Named next : NEXT) {
            for (int from = 0; from < questions.size(); from += ASKED_AT_ONCE) {
                TwoBooks alone = past.desk(), called = past.desk();
                due(name, call.to(called), want);
                alike(name + ", then " + next.name, next.call, called, alone);
                for (Named question : questions.subList(from, Math.min(from + ASKED_AT_ONCE, questions.size())))
                    alike(name + ", then " + next.name + ", then " + question.name, question.call, called, alone);
            }
        }
    }

    private static void alike(String name, Call call, TwoBooks called, TwoBooks alone) {
        due(name, call.to(called), call.to(alone));
    }

    /** Of a long row of lines or groups only the last ones are asked for. */
    private static List<Named> questions(TwoBooks x) {
        List<Named> all = new ArrayList<>();
        for (int k = 0; k < 6; k++) {
            int what = k;
            all.add(new Named("count(" + what + ")", y -> y.count(what)));
            all.add(new Named("sum(" + what + ")", y -> y.sum(what)));
        }
        all.add(new Named("check()", TwoBooks::check));
        for (int a = 0; a <= Math.min(x.count(0), 18); a++) aboutPair(all, a);
        for (int k = 0; k < 6; k++) aboutSet(all, k);
        for (int book = 0; book < 2; book++)
            for (int i = Math.max(0, x.count(book) - 10); i <= x.count(book); i++) aboutLine(all, book, i);
        for (int g = Math.max(0, x.count(2) - 10); g <= x.count(2); g++) aboutGroup(all, g);
        for (int day = 0; day <= x.count(5) + 1; day++) aboutDay(all, day);
        return all;
    }

    private static void aboutPair(List<Named> all, int a) {
        all.add(new Named("with(" + a + ")", y -> y.with(a)));
        all.add(new Named("rival(" + a + ")", y -> y.rival(a)));
        all.add(new Named("fit(" + a + ", " + a + ")", y -> y.fit(a, a)));
        all.add(new Named("fit(" + a + ", 7)", y -> y.fit(a, 7)));
        all.add(new Named("explained(" + a + ", 0)", y -> y.explained(a, 0)));
        all.add(new Named("explained(" + a + ", 1)", y -> y.explained(a, 1)));
    }

    private static void aboutSet(List<Named> all, int k) {
        all.add(new Named("size(" + k + ")", y -> y.size(k)));
        for (int n = 0; n < 4; n++) {
            int j = n;
            all.add(new Named("in(" + k + ", " + j + ")", y -> y.in(k, j)));
        }
    }

    private static void aboutLine(List<Named> all, int book, int i) {
        for (int k = 0; k < 7; k++) {
            int what = k;
            all.add(new Named("told(" + book + ", " + i + ", " + what + ")", y -> y.told(book, i, what)));
        }
        all.add(new Named("broken(" + book + ", " + i + ")", y -> y.broken(book, i)));
        all.add(new Named("breaks(" + book + ", " + i + ")", y -> y.breaks(book, i)));
    }

    private static void aboutGroup(List<Named> all, int g) {
        for (int k = 0; k < 6; k++) {
            int what = k;
            all.add(new Named("group(" + g + ", " + what + ")", y -> y.group(g, what)));
        }
    }

    private static void aboutDay(List<Named> all, int day) {
        for (int k = 0; k < 3; k++) {
            int what = k;
            all.add(new Named("as(" + day + ", " + what + ")", y -> y.as(day, what)));
        }
    }
}
