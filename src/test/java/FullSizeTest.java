import java.util.Random;

/** TwoBooks against PlainDesk where the searches are as large as the document allows. */
public final class FullSizeTest {
    private static int wrong = 0;

    private static void same(String what, long got, long want) {
        if (got != want) {
            wrong++;
            System.out.println(what + " answered " + got + ", due is " + want);
        }
    }

    private static void line(TwoBooks desk, PlainDesk plain, int book, int amount, int dayMark, int word) {
        same("line", desk.line(book, amount, dayMark, word), plain.line(book, amount, dayMark, word));
    }

    /** 14 and 14 breaks, near to one another, so that many pairings are as good as the best. */
    private static void pairing(int seed) {
        Random chance = new Random(seed);
        TwoBooks desk = new TwoBooks();
        PlainDesk plain = new PlainDesk();
        int reach = 1 + chance.nextInt(600), words = 1 + chance.nextInt(4), days = 1 + chance.nextInt(8), marks = 1 + chance.nextInt(3);
        desk.terms(5, reach / 2);
        plain.terms(5, reach / 2);
        for (int i = 0; i < 14; i++)
            for (int book = 0; book < 2; book++)
                line(desk, plain, book, 1 + chance.nextInt(reach), chance.nextInt(days) * 10000 + chance.nextInt(marks), chance.nextInt(words));
        same("pairing " + seed + ": best()", desk.best(), plain.best());
        for (int a = 0; a < 14; a++) {
            same("pairing " + seed + ": with(" + a + ")", desk.with(a), plain.with(a));
            same("pairing " + seed + ": rival(" + a + ")", desk.rival(a), plain.rival(a));
        }
        int sure = chance.nextInt(10);
        same("pairing " + seed + ": pair(" + sure + ")", desk.pair(sure), plain.pair(sure));
        for (int i = 0; i < 14; i++)
            for (int book = 0; book < 2; book++) same("pairing " + seed + ": told", desk.told(book, i, 5), plain.told(book, i, 5));
    }

    /** 18 breaks and groups, of small amounts, so that many sets are as good. */
    private static void explanation(int seed) {
        Random chance = new Random(seed);
        TwoBooks desk = new TwoBooks();
        PlainDesk plain = new PlainDesk();
        int groups = chance.nextInt(9), most = seed % 2 == 0 ? 9 : 1000000;
        for (int i = 0; i < 18 + groups; i++) {
            int amount = (1 + chance.nextInt(most)) * (chance.nextInt(3) == 0 ? -1 : 1);
            line(desk, plain, i < 2 * groups ? i % 2 : chance.nextInt(2), amount, 0, 0);
        }
        for (int g = 0; g < groups; g++) same("hand", desk.hand(g, g), plain.hand(g, g));
        same("explanation " + seed + ": explain()", desk.explain(), plain.explain());
        for (int j = 0; j < 19; j++)
            for (int what = 0; what < 2; what++)
                same("explanation " + seed + ": explained(" + j + ", " + what + ")", desk.explained(j, what), plain.explained(j, what));
    }

    /** Sets of up to four among 80 lines; each desk is asked for a part of them, to stay within 512 calls. */
    private static void sets(int seed) {
        Random chance = new Random(seed);
        int most = seed % 3 == 0 ? 1000000 : seed % 3 == 1 ? 30 : 2000;
        int[] amounts = new int[81], days = new int[81];
        for (int i = 0; i < 81; i++) {
            amounts[i] = (1 + chance.nextInt(most)) * (i > 0 && chance.nextInt(4) == 0 ? -1 : 1);
            days[i] = i == 0 ? 4 : chance.nextInt(9);
        }
        int e = seed % 3 == 2 ? 0 : chance.nextInt(3);
        PlainDesk plain = new PlainDesk();
        for (int i = 0; i < 81; i++) plain.line(i == 0 ? 0 : 1, amounts[i], days[i] * 10000, 0);
        int many = plain.sets(0, 0, 4, e);
        for (int from = 0; from <= many; from += 80) {
            TwoBooks desk = new TwoBooks();
            for (int i = 0; i < 81; i++) desk.line(i == 0 ? 0 : 1, amounts[i], days[i] * 10000, 0);
            same("sets " + seed, desk.sets(0, 0, 4, e), many);
            for (int k = from; k < from + 80; k++) {
                same("sets " + seed + ": size(" + k + ")", desk.size(k), plain.size(k));
                for (int j = 0; j < 4; j++) same("sets " + seed + ": in(" + k + ", " + j + ")", desk.in(k, j), plain.in(k, j));
            }
        }
    }

    public static void main(String[] args) {
        for (int seed = 0; seed < 60; seed++) pairing(seed);
        for (int seed = 0; seed < 60; seed++) explanation(seed);
        for (int seed = 0; seed < 30; seed++) sets(seed);
        System.out.println(wrong == 0 ? "the largest searches agree" : wrong + " answers are not as due");
        if (wrong != 0) System.exit(1);
    }
}
