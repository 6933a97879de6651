/** The boundary cases that promise 5 names: one method for each sentence or part of one. */
public final class SentencesOfPowerTest {
    private static final int MOST = Integer.MAX_VALUE;
    private static final int LEAST = Integer.MIN_VALUE;

    public static void main(String[] args) {
        Check.sentence("Promise 5", "t(n) (which = 0) or u(n) (1) modulo m,", SentencesOfPowerTest::whichZeroAndOne);
        Check.sentence("Promise 5", "from 0 to m - 1.", SentencesOfPowerTest::fromZero);
        Check.sentence("Promise 5", "modulo m, from 0 to m - 1.", SentencesOfPowerTest::moduloOne);
        Check.sentence("Promise 5", "from 0 to m - 1.", SentencesOfPowerTest::toMLessOne);
        Check.sentence("Promise 5", "t(n) (which = 0) or u(n) (1) modulo m,", SentencesOfPowerTest::farthestPowers);
        Check.sentence("Promise 5", "IllegalArgumentException: n is below 0,", SentencesOfPowerTest::nBelowZero);
        Check.sentence("Promise 5", "m is below 1,", SentencesOfPowerTest::mBelowOne);
        Check.sentence("Promise 5", "or another which.", SentencesOfPowerTest::anotherWhich);
        Check.end();
    }

    private static void whichZeroAndOne() {
        UnitFinder x = Check.taken(61);
        Check.due("power(1, 2000, 0)", x.power(1, 2000, 0), 1523);
        Check.due("power(1, 2000, 1)", x.power(1, 2000, 1), 195);
        Check.due("power(2, 2000, 0)", x.power(2, 2000, 0), 1527);
        Check.due("power(2, 2000, 1)", x.power(2, 2000, 1), 985);
        // m is t or u itself, one less and one more.
        Check.due("power(1, 1522, 0)", x.power(1, 1522, 0), 1);
        Check.due("power(1, 1523, 0)", x.power(1, 1523, 0), 0);
        Check.due("power(1, 1524, 0)", x.power(1, 1524, 0), 1523);
        Check.due("power(1, 194, 1)", x.power(1, 194, 1), 1);
        Check.due("power(1, 195, 1)", x.power(1, 195, 1), 0);
        Check.due("power(1, 196, 1)", x.power(1, 196, 1), 195);
    }

    private static void fromZero() {
        // t(2), t(3) of -3 are -1, -2; t(2) and u(3) of -4 are -2 and -1.
        UnitFinder x = Check.taken(-3);
        Check.due("power(2, 50, 0) of -3", x.power(2, 50, 0), 49);
        Check.due("power(3, 50, 0) of -3", x.power(3, 50, 0), 48);
        Check.due("power(4, 50, 1) of -3", x.power(4, 50, 1), 49);
        UnitFinder y = new UnitFinder();
        Check.due("power(2, 50, 0) of -4", y.power(2, 50, 0), 48);
        Check.due("power(3, 50, 1) of -4", y.power(3, 50, 1), 49);
        // A number below 0 that m goes into, or nearly.
        Check.due("power(2, 2, 0) of -4", y.power(2, 2, 0), 0);
        Check.due("power(2, 3, 0) of -4", y.power(2, 3, 0), 1);
        Check.due("power(3, 2, 1) of -4", y.power(3, 2, 1), 1);
        // t(0) = 2 is not less than m.
        Check.due("power(0, 2, 0)", y.power(0, 2, 0), 0);
        Check.due("power(0, 3, 0)", y.power(0, 3, 0), 2);
    }

    private static void moduloOne() {
        int[] some = {-3, -4, -7, 5, 61, 1007161};
        int[] powers = {0, 1, 2, 3, 1000000, MOST};
        for (int d : some) {
            UnitFinder x = Check.taken(d);
            for (int n : powers) {
                Check.due("power(" + n + ", 1, 0) of " + d, x.power(n, 1, 0), 0);
                Check.due("power(" + n + ", 1, 1) of " + d, x.power(n, 1, 1), 0);
            }
        }
    }

    private static void toMLessOne() {
        // The greatest answer that there is.
        Check.due("power(2, " + MOST + ", 0) of -3", Check.taken(-3).power(2, MOST, 0), MOST - 1);
        Check.due("power(3, " + MOST + ", 1) of -4", new UnitFinder().power(3, MOST, 1), MOST - 1);
        Check.due("power(" + MOST + ", " + MOST + ", 1) of 5", Check.taken(5).power(MOST, MOST, 1), MOST - 1);
        Check.due("power(1, 4, 0) of 5", Check.taken(5).power(1, 4, 0), 3);
        Check.due("power(1, 2, 1) of 5", Check.taken(5).power(1, 2, 1), 1);
    }

    private static void farthestPowers() {
        // D, n, m, t(n), u(n): products of two residues of the greatest m are as large as they can be.
        int[][] known = {{-3, MOST, MOST, 1, 1}, {-4, MOST, MOST, 0, 2147483646}, {-7, MOST, MOST, 2, 0},
            {5, MOST - 1, MOST - 1, 27627460, 926175240}, {5, MOST, MOST - 1, 1283137467, 329334767},
            {5, MOST - 1, MOST, 7, 2147483644}, {5, MOST, MOST, 3, 2147483646},
            {61, MOST - 1, MOST - 1, 2114462, 1142103204}, {61, MOST, MOST - 1, 1778196305, 186873261}, {61, MOST, MOST, 1523, 195},
            {1048573, MOST - 1, MOST - 1, 1986343130, 1474878636}, {1048573, MOST, MOST - 1, 581710835, 1534737699},
            {1007161, MOST - 1, MOST - 1, 2013289742, 251807094}, {1007161, MOST, MOST - 1, 2084598056, 2066192898},
            {1007161, MOST - 1, MOST, 78116538, 2066510799}, {1007161, MOST, MOST, 2088550929, 1358652026}};
        for (int[] row : known) {
            UnitFinder x = Check.taken(row[0]);
            String name = "power(" + row[1] + ", " + row[2] + ", which) of " + row[0];
            Check.due(name + ", which = 0,", x.power(row[1], row[2], 0), row[3]);
            Check.due(name + ", which = 1,", x.power(row[1], row[2], 1), row[4]);
        }
    }

    private static void nBelowZero() {
        answers(0, 5, 0);
        answers(0, 5, 1);
        int[] below = {-1, -2, LEAST, -MOST};
        for (int n : below) {
            refused(n, 5, 0);
            refused(n, 5, 1);
        }
    }

    private static void mBelowOne() {
        answers(3, 1, 0);
        answers(3, 1, 1);
        int[] below = {0, -1, -5, LEAST, -MOST};
        for (int m : below) {
            refused(3, m, 0);
            refused(3, m, 1);
            refused(0, m, 0);
        }
    }

    private static void anotherWhich() {
        answers(3, 5, 0);
        answers(3, 5, 1);
        int[] others = {-1, 2, 3, 256, LEAST, MOST};
        for (int which : others) {
            refused(3, 5, which);
            refused(0, 1, which);
        }
    }

    private static void answers(int n, int m, int which) {
        Check.throwing("power(" + n + ", " + m + ", " + which + ")", "nothing", () -> Check.taken(61).power(n, m, which));
    }

    private static void refused(int n, int m, int which) {
        UnitFinder x = Check.asked(61, -1, 7, 3);
        Check.refused(x, "power(" + n + ", " + m + ", " + which + ")", Check.ARGUMENT, () -> x.power(n, m, which));
    }
}
