import java.math.BigInteger;

/** Promise 2: take, and the unit that it finds. */
public final class TakeTest {
    public static void main(String[] args) {
        bitsOfKnownUnits();
        whatCanBeTaken();
        refusedChangesNothing();
        leastByTrial();
        takenAgain();
        Check.end();
    }

    private static void bitsOfKnownUnits() {
        int[][] known = {{-3, 1}, {-4, 0}, {-7, 2}, {-8, 2}, {-1048576, 2}, {-1048575, 2},
            {5, 2}, {8, 3}, {12, 3}, {13, 4}, {61, 11}, {244, 32}, {1045, 7}, {1048573, 1858},
            {1007161, 7825}, {1048572, 11}};
        UnitFinder x = new UnitFinder();
        for (int[] row : known) {
            Check.due("take(" + row[0] + ")", x.take(row[0]), row[1]);
            Check.due("count(0)", x.count(0), row[0]);
            Check.due("bits(0)", x.bits(0), row[1]);
        }
    }

    private static void whatCanBeTaken() {
        for (int d = -1048600; d <= 1048600; d++) {
            if (Math.abs(d) < 1200 || Math.abs(d) > 1048000) {
                tryOne(d);
            }
        }
        for (int root = 0; root <= 1025; root++) {
            tryOne(root * root);
        }
        int[] far = {Integer.MIN_VALUE, Integer.MAX_VALUE, -2147483647, 1073741825, 46341 * 46340, 1 << 30};
        for (int d : far) {
            tryOne(d);
        }
    }

    private static void tryOne(int d) {
        UnitFinder x = new UnitFinder();
        Check.throwing("take(" + d + ")", Reference.canBeTaken(d) ? "nothing" : Check.ARGUMENT, () -> x.take(d));
        Check.due("count(0)", x.count(0), Reference.canBeTaken(d) ? d : -4);
    }

    private static void refusedChangesNothing() {
        UnitFinder x = Check.taken(61);
        x.ask(-1, 7, 3);
        String before = Check.state(x);
        int[] refused = {0, 1, 2, 3, 4, 6, 7, 9, -1, -2, -5, 1048576, 1048577, -1048577, -1048579, -1048580,
            1048580, Integer.MIN_VALUE, Integer.MAX_VALUE};
        for (int d : refused) {
            Check.throwing("take(" + d + ")", Check.ARGUMENT, () -> x.take(d));
        }
        Check.due("the state after refused takes", Check.state(x), before);
    }

    /** Where u is small, trial tells that none is less. */
    private static void leastByTrial() {
        for (int d = 5; d < 700; d++) {
            if (!Reference.canBeTaken(d)) {
                continue;
            }
            UnitFinder x = Check.taken(d);
            trial(x, d, 4, 0);
            trial(x, d, -4, 6);
        }
    }

    private static void trial(UnitFinder x, int d, int four, int first) {
        long found = 0;
        for (long u = 1; u < 20000 && found == 0; u++) {
            BigInteger square = BigInteger.valueOf(d * u * u + four);
            if (square.signum() > 0 && square.sqrt().pow(2).equals(square)) {
                found = u;
                Check.due("t for D = " + d, Check.number(x, first), square.sqrt());
                Check.due("u for D = " + d, Check.number(x, first + 1), BigInteger.valueOf(u));
            }
        }
        BigInteger answer = Check.number(x, first + 1);
        if (found == 0 && answer.signum() != 0) {
            Check.due("u past the trial, D = " + d, answer.compareTo(BigInteger.valueOf(20000)) >= 0, true);
        }
    }

    /** A long unit leaves nothing behind for a short one, and D taken again forgets the form asked. */
    private static void takenAgain() {
        UnitFinder x = Check.taken(1007161);
        int[] later = {5, -4, 12, -3, -7, 61, 1048573, -1048576, 8};
        for (int d : later) {
            x.take(d);
            Check.due("the state of " + d + " after others", Check.state(x), Check.state(Check.taken(d)));
        }
        UnitFinder y = Check.taken(5);
        y.ask(-1, 3, -1);
        Check.due("take(5)", y.take(5), 2);
        Check.due("the state of 5 taken twice", Check.state(y), Check.state(Check.taken(5)));
        UnitFinder z = new UnitFinder();
        z.ask(5, 4, 1);
        Check.due("take(-4)", z.take(-4), 0);
        Check.due("the state of -4 taken", Check.state(z), Check.state(new UnitFinder()));
    }
}
