import java.math.BigInteger;

/** Promises 2, 3, 6 to 8 over many D of all sizes, against the document's ring worked out literally. */
public final class SweepTest {
    private static final BigInteger FOUR = BigInteger.valueOf(4);

    public static void main(String[] args) {
        for (int d = 5; d <= 1048576; d += d < 2000 ? 1 : 1499) {
            if (Reference.canBeTaken(d)) {
                compare(d);
            }
        }
        // The longest units and rings that there are.
        int[] longest = {832129, 878641, 946969, 979969, 1007161};
        for (int d : longest) {
            compare(d);
        }
        for (int d = 1048576; d > 1040000; d--) {
            if (Reference.canBeTaken(d)) {
                solve(d);
            }
        }
        Check.end();
    }

    private static void compare(int d) {
        Reference reference = new Reference(d);
        UnitFinder x = Check.taken(d);
        Check.due("count(1) of " + d, x.count(1), reference.ring.size());
        Check.due("count(2) of " + d, x.count(2), reference.minusU.signum());
        Check.due("minus t of " + d, Check.number(x, 6), reference.minusT);
        Check.due("minus u of " + d, Check.number(x, 7), reference.minusU);
        UnitFinder y = Check.taken(d);
        Check.due("t of " + d, Check.number(y, 0), reference.t);
        UnitFinder z = Check.taken(d);
        Check.due("u of " + d, Check.number(z, 1), reference.u);
        solve(d);
    }

    private static void solve(int d) {
        UnitFinder x = Check.taken(d);
        UnitFinder y = Check.taken(d);
        Check.due("t t - D u u of " + d, norm(d, Check.number(x, 0), Check.number(y, 1)), FOUR);
        if (y.count(2) == 1) {
            UnitFinder z = Check.taken(d);
            Check.due("t t - D u u of " + d, norm(d, Check.number(z, 6), Check.number(z, 7)), FOUR.negate());
        }
    }

    private static BigInteger norm(int d, BigInteger t, BigInteger u) {
        return t.multiply(t).subtract(u.multiply(u).multiply(BigInteger.valueOf(d)));
    }
}
