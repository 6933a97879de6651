/** The boundary cases that promises 1 to 3 name: one method for each sentence or part of one. */
public final class SentencesOfTakeTest {
    private static final int LONGEST = 1007161;
    private static final int[] BELOW = {-3, -4, -7, -8, -1048575, -1048576};
    private static final int[] ABOVE = {5, 8, 12, 61, LONGEST, 1048572, 1048573};

    public static void main(String[] args) {
        Check.sentence("Promise 1", "D is -4.", SentencesOfTakeTest::newObject);
        Check.sentence("Promise 2", "D becomes d: how many bits t has (0 for 0).", SentencesOfTakeTest::bitsOfT);
        Check.sentence("Promise 2", "(0 for 0).", SentencesOfTakeTest::noBitsOfZero);
        Check.sentence("Promise 2", "D becomes d:", SentencesOfTakeTest::becomesD);
        Check.sentence("Promise 2", "IllegalArgumentException: it can't be taken (nothing changes).",
                SentencesOfTakeTest::cannotBeTaken);
        Check.sentence("Promise 3", "0: D;", SentencesOfTakeTest::countOfD);
        Check.sentence("Promise 3", "1: how many forms the ring has,", SentencesOfTakeTest::countOfRing);
        Check.sentence("Promise 3", "0 if D is below 0;", SentencesOfTakeTest::noRingBelow);
        Check.sentence("Promise 3", "2: whether there are t, u with t t - D u u = -4 (D above 0): 1, else 0;",
                SentencesOfTakeTest::minusFour);
        Check.sentence("Promise 3", "(D above 0): 1, else 0;", SentencesOfTakeTest::noMinusFourBelow);
        Check.sentence("Promise 3", "3: how many (t, u) there are with t t - D u u = 4, if D is below 0,",
                SentencesOfTakeTest::solutionsBelow);
        Check.sentence("Promise 3", "else -1;", SentencesOfTakeTest::noCountAbove);
        Check.sentence("Promise 3", "-1 for another what.", SentencesOfTakeTest::anotherWhat);
        Check.end();
    }

    private static void newObject() {
        UnitFinder x = new UnitFinder();
        int[] counts = {-4, 0, 0, 4};
        for (int what = 0; what < 4; what++) {
            Check.due("count(" + what + ")", x.count(what), counts[what]);
        }
        Check.numbers("a new object", x, 0, 0, 1, 0, -1, 1, 0, 0, 0);
        UnitFinder y = new UnitFinder();
        y.take(-4);
        Check.due("the state of a new object", Check.state(x), Check.state(y));
        Check.throwing("ask(5, 4, 1)", "nothing", () -> x.ask(5, 4, 1));
    }

    private static void bitsOfT() {
        // On both sides of each power of two that ends a word, and t = 4, 8 and 1024 themselves.
        int[][] known = {{-3, 1}, {-7, 2}, {-1048576, 2}, {5, 2}, {8, 3}, {12, 3}, {21, 3}, {45, 3}, {60, 4}, {1046525, 10},
            {1048572, 11}, {233, 31}, {244, 32}, {1012, 33}, {724, 63}, {1417, 64}, {569, 65}, {601, 96}, {2389, 97},
            {1048573, 1858}, {LONGEST, 7825}};
        for (int[] row : known) {
            UnitFinder x = new UnitFinder();
            Check.due("take(" + row[0] + ")", x.take(row[0]), row[1]);
        }
    }

    private static void noBitsOfZero() {
        UnitFinder x = new UnitFinder();
        Check.due("take(-4) of a new object", x.take(-4), 0);
        x.take(LONGEST);
        Check.due("take(-4) after the longest", x.take(-4), 0);
    }

    private static void becomesD() {
        UnitFinder x = new UnitFinder();
        for (int d : ABOVE) {
            for (int e : BELOW) {
                x.take(d);
                Check.due("count(0) after take(" + d + ")", x.count(0), d);
                x.take(e);
                Check.due("count(0) after take(" + e + ")", x.count(0), e);
            }
        }
    }

    private static void cannotBeTaken() {
        int[] refused = {0, 1, 4, 9, 1046529, 1048576, 2, 3, -1, -2, -5, 1048574, -1048574, 1048577, 1048580, -1048577, -1048579,
            -1048580, Integer.MIN_VALUE, -2147483647, Integer.MAX_VALUE, 2147483645, 1073741824, 1073741825};
        for (int d : refused) {
            UnitFinder x = Check.asked(61, -1, 7, 3);
            Check.refused(x, "take(" + d + ")", Check.ARGUMENT, () -> x.take(d));
            UnitFinder y = Check.asked(-4, 5, 4, 1);
            Check.refused(y, "take(" + d + ")", Check.ARGUMENT, () -> y.take(d));
        }
    }

    private static void countOfD() {
        UnitFinder x = new UnitFinder();
        Check.due("count(0) of a new object", x.count(0), -4);
        int[] ends = {-1048576, -3, 5, 1048573};
        for (int d : ends) {
            x.take(d);
            Check.due("count(0)", x.count(0), d);
        }
    }

    private static void countOfRing() {
        int[] forms = {2, 2, 2, 6, 4706, 2, 1106};
        for (int i = 0; i < forms.length; i++) {
            Check.due("count(1) of " + ABOVE[i], Check.taken(ABOVE[i]).count(1), forms[i]);
        }
    }

    private static void noRingBelow() {
        Check.due("count(1) of a new object", new UnitFinder().count(1), 0);
        countBelow(1, 0);
    }

    private static void minusFour() {
        int[][] known = {{5, 1}, {8, 1}, {12, 0}, {13, 1}, {17, 1}, {20, 1}, {21, 0}, {28, 0}, {61, 1}, {1044488, 1}, {1046525, 0},
            {1046533, 1}, {1048572, 0}, {1048573, 1}, {LONGEST, 1}};
        for (int[] row : known) {
            Check.due("count(2) of " + row[0], Check.taken(row[0]).count(2), row[1]);
        }
    }

    private static void noMinusFourBelow() {
        Check.due("count(2) of a new object", new UnitFinder().count(2), 0);
        countBelow(2, 0);
    }

    /** Each D below 0 after one above 0, whose answer must not be left standing. */
    private static void countBelow(int what, int due) {
        for (int d : BELOW) {
            UnitFinder x = Check.taken(61);
            x.take(d);
            Check.due("count(" + what + ") of " + d, x.count(what), due);
        }
    }

    private static void solutionsBelow() {
        int[] due = {6, 4, 2, 2, 2, 2};
        for (int i = 0; i < due.length; i++) {
            Check.due("count(3) of " + BELOW[i], Check.taken(BELOW[i]).count(3), due[i]);
        }
        // Multiples by squares of -3 and -4 have only (2, 0) and (-2, 0) again.
        int[] multiples = {-12, -16, -27, -36};
        for (int d : multiples) {
            Check.due("count(3) of " + d, Check.taken(d).count(3), 2);
        }
    }

    private static void noCountAbove() {
        for (int d : ABOVE) {
            Check.due("count(3) of " + d, Check.taken(d).count(3), -1);
        }
    }

    private static void anotherWhat() {
        int[] others = {-1, 4, -2, 5, 256, Integer.MIN_VALUE, Integer.MAX_VALUE};
        for (int what : others) {
            Check.due("count(" + what + ") of a new object", new UnitFinder().count(what), -1);
            Check.due("count(" + what + ") of -3", Check.taken(-3).count(what), -1);
            Check.due("count(" + what + ") of 61", Check.taken(61).count(what), -1);
        }
    }
}
