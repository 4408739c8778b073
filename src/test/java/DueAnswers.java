import java.io.IOException;
import java.nio.file.Files;
import java.nio.file.Path;

/** What the tests of the document's words have in common: desks to ask, and answers held against what is due. */
abstract class DueAnswers {
    static final int NONE = -1, TAKEN = -2, LOCKED = -3, BIG = -4, FULL = -5;
    static final int NO_LINE = -2000000, NO_GROUP = -20000000;
    static final long NO_DAY = -2000000000000L;
    static final int LOW = Integer.MIN_VALUE, HIGH = Integer.MAX_VALUE;
    static final int BEST = 0, SET = 1, HAND = 2;

    private static String document = "";
    private static String saying = "";
    private static int wrong = 0;

    /** What the next answers are due to. */
    static void by(String words) {
        saying = words;
    }

    /** What the next answers are due to, word by word as the document says it. */
    static void sentence(String words) {
        by("\"" + words + "\"");
        if (!document().contains(words)) miss("the document does not say so");
    }

    private static String document() {
        if (document.isEmpty()) {
            try {
                document = Files.readString(Path.of("../shared/DOC.md")).replaceAll("\\s+", " ");
            } catch (IOException e) {
                throw new IllegalStateException("the tests run from the project's folder, ../shared/DOC.md beside it", e);
            }
        }
        return document;
    }

    static void due(String what, long got, long want) {
        if (got != want) miss(what + " answered " + got + ", due is " + want);
    }

    static void miss(String how) {
        wrong++;
        System.out.println(saying + ": " + how);
    }

    static void end(String good) {
        System.out.println(wrong == 0 ? good : wrong + " answers are not as due");
        if (wrong != 0) System.exit(1);
    }

    static int[] of(int... numbers) {
        return numbers;
    }

    /** Lines of a book, of day 0, word 0 and no mark. */
    static TwoBooks put(TwoBooks x, int book, int... amounts) {
        for (int amount : amounts) x.line(book, amount, 0, 0);
        return x;
    }

    /** As many lines of one amount, of day 0, word 0 and no mark. */
    static TwoBooks many(TwoBooks x, int book, int lines, int amount) {
        for (int i = 0; i < lines; i++) x.line(book, amount, 0, 0);
        return x;
    }

    static TwoBooks desk(int[] first, int[] second) {
        return put(put(new TwoBooks(), 0, first), 1, second);
    }

    /** A line of each book, as far apart as told. */
    static TwoBooks couple(int firstAmount, int firstDayMark, int secondAmount, int secondDayMark) {
        TwoBooks x = new TwoBooks();
        x.line(0, firstAmount, firstDayMark, 1);
        x.line(1, secondAmount, secondDayMark, 2);
        return x;
    }

    /**
     * A desk on which so many GROUPS were made and PARTED; 14 lines in each book, each with one that it fits, the
     * first ones by their MARK too. A PAIRING makes 14 at once, so that even 200 leave half of the 512 calls.
     */
    static TwoBooks made(int groups) {
        TwoBooks x = new TwoBooks();
        for (int i = 0; i < 14; i++) {
            x.line(0, 100 + i, i == 0 ? 1 : 0, i);
            x.line(1, 100 + i, i == 0 ? 1 : 0, i);
        }
        int number = 0;
        while (groups - number >= 14) {
            x.best();
            x.pair(0);
            for (int i = 0; i < 14; i++) x.part(number++);
        }
        while (number < groups) {
            x.hand(0, 0);
            x.part(number++);
        }
        return x;
    }
}
