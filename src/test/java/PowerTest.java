import java.math.BigInteger;

/** Promise 5: power. */
public final class PowerTest {
    public static void main(String[] args) {
        int[] some = {-3, -4, -7, -1048576, 5, 8, 12, 61, 244, 1045, 1048573, 1007161};
        for (int d : some) {
            byRecurrence(d);
            farPowers(d);
        }
        wrongArguments();
        Check.end();
    }

    private static void byRecurrence(int d) {
        Reference reference = new Reference(d);
        BigInteger[] before = {BigInteger.TWO, BigInteger.ZERO};
        BigInteger[] now = {reference.t, reference.u};
        UnitFinder x = Check.taken(d);
        int[] moduli = {1, 2, 3, 10, 1000003, 1 << 30, 2147483629, Integer.MAX_VALUE};
        for (int n = 0; n < 30; n++) {
            for (int which = 0; which < 2; which++) {
                int m = moduli[(n + which) % moduli.length];
                same(x, d, n, m, which, before[which]);
                same(x, d, n, Integer.MAX_VALUE, which, before[which]);
                same(x, d, n, 1, which, before[which]);
                BigInteger after = reference.t.multiply(now[which]).subtract(before[which]);
                before[which] = now[which];
                now[which] = after;
            }
        }
    }

    private static void same(UnitFinder x, int d, int n, int m, int which, BigInteger due) {
        Check.due("D = " + d + ": power(" + n + ", " + m + ", " + which + ")",
                x.power(n, m, which), due.mod(BigInteger.valueOf(m)).intValueExact());
    }

    /** Powers of (t + u R) / 2 by squaring pairs modulo 2 m, another way than the class goes. */
    private static void farPowers(int d) {
        Reference reference = new Reference(d);
        UnitFinder x = Check.taken(d);
        int[] powers = {31, 32, 63, 1000000, 1 << 30, Integer.MAX_VALUE - 1, Integer.MAX_VALUE};
        int[] moduli = {1, 2, 4, 999983, 1 << 30, 2147483646, Integer.MAX_VALUE};
        for (int n : powers) {
            for (int m : moduli) {
                BigInteger[] due = pair(reference, n, m);
                same(x, d, n, m, 0, due[0]);
                same(x, d, n, m, 1, due[1]);
            }
        }
    }

    private static BigInteger[] pair(Reference reference, int n, int m) {
        // Each halving costs the modulus a bit, and there are 62 of them at most.
        BigInteger modulus = BigInteger.valueOf(m).shiftLeft(100);
        BigInteger[] answer = {BigInteger.TWO, BigInteger.ZERO};
        for (int bit = 30; bit >= 0; bit--) {
            answer = times(answer, answer, reference.big, modulus);
            modulus = modulus.shiftRight(1);
            if ((n >>> bit & 1) == 1) {
                answer = times(answer, new BigInteger[] {reference.t, reference.u}, reference.big, modulus);
                modulus = modulus.shiftRight(1);
            }
        }
        return answer;
    }

    private static BigInteger[] times(BigInteger[] x, BigInteger[] y, BigInteger d, BigInteger modulus) {
        BigInteger t = x[0].multiply(y[0]).add(x[1].multiply(y[1]).multiply(d)).mod(modulus);
        BigInteger u = x[0].multiply(y[1]).add(x[1].multiply(y[0])).mod(modulus);
        return new BigInteger[] {t.shiftRight(1), u.shiftRight(1)};
    }

    private static void wrongArguments() {
        UnitFinder x = Check.taken(5);
        String before = Check.state(x);
        int low = Integer.MIN_VALUE;
        int high = Integer.MAX_VALUE;
        int[][] wrong = {{-1, 5, 0}, {low, 5, 1}, {1, 0, 0}, {1, -1, 0}, {1, low, 1}, {0, 0, 0}, {1, 5, 2}, {1, 5, -1},
            {1, 5, low}, {1, 5, high}, {-1, 0, 2}};
        for (int[] w : wrong) {
            Check.throwing("power(" + w[0] + ", " + w[1] + ", " + w[2] + ")", Check.ARGUMENT,
                    () -> x.power(w[0], w[1], w[2]));
        }
        Check.due("the state after", Check.state(x), before);
    }
}
