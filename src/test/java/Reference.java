import java.math.BigInteger;
import java.util.ArrayList;
import java.util.List;

/** The document's terms, worked out with BigInteger as literally as they stand there. */
final class Reference {
    final int d;
    final BigInteger big;
    final List<long[]> ring = new ArrayList<>();
    BigInteger t;
    BigInteger u;
    BigInteger minusT = BigInteger.ZERO;
    BigInteger minusU = BigInteger.ZERO;

    Reference(int d) {
        this.d = d;
        big = BigInteger.valueOf(d);
        if (d > 0) {
            makeRing();
            makeUnit();
        } else {
            t = BigInteger.valueOf(d == -3 ? 1 : d == -4 ? 0 : 2);
            u = BigInteger.valueOf(d == -3 || d == -4 ? 1 : 0);
        }
    }

    static boolean canBeTaken(int d) {
        if (d < -1048576 || d > 1048576 || Math.floorMod(d, 4) > 1) {
            return false;
        }
        for (long x = 0; x * x <= d; x++) {
            if (x * x == d) {
                return false;
            }
        }
        return true;
    }

    private void makeRing() {
        long b = 0;
        for (long x = 0; x * x < d; x++) {
            if (Math.floorMod(x * x - d, 4L) == 0) {
                b = x;
            }
        }
        long[] first = {1, b, (b * b - d) / 4};
        long[] form = first;
        do {
            ring.add(form);
            form = next(form);
        } while (form[0] != first[0] || form[1] != first[1] || form[2] != first[2]);
    }

    private long[] next(long[] form) {
        long b = form[1];
        long c = form[2];
        long size = Math.abs(c);
        long e;
        if (size * size < d) {
            e = 2000;
            while ((e > 0 && e * e > d) || Math.floorMod(b + e, 2 * size) != 0) {
                e--;
            }
        } else {
            e = size;
            while (Math.floorMod(b + e, 2 * size) != 0) {
                e--;
            }
        }
        return new long[] {c, e, (e * e - d) / (4 * c)};
    }

    /** The product of the steps' matrices once round the ring is an automorph of its first form. */
    private void makeUnit() {
        BigInteger p = BigInteger.ONE;
        BigInteger q = BigInteger.ZERO;
        BigInteger r = BigInteger.ZERO;
        BigInteger s = BigInteger.ONE;
        for (int i = 0; i < ring.size(); i++) {
            long[] form = ring.get(i);
            long[] after = ring.get((i + 1) % ring.size());
            BigInteger turn = BigInteger.valueOf((form[1] + after[1]) / (2 * form[2]));
            BigInteger newQ = q.multiply(turn).subtract(p);
            BigInteger newS = s.multiply(turn).subtract(r);
            p = q;
            r = s;
            q = newQ;
            s = newS;
            // Half way round stands (-1, b, -c) if -4 can be had; its automorphs tell t and u.
            if (i + 1 < ring.size() && after[0] == -1) {
                halfWay(r);
            }
        }
        u = r.abs();
        t = p.add(s).abs();
    }

    private void halfWay(BigInteger r) {
        minusU = r.abs();
        minusT = minusU.multiply(minusU).multiply(big).subtract(BigInteger.valueOf(4)).sqrt();
    }

    BigInteger[] numbers(long a, long b, long c) {
        BigInteger bu = u.multiply(BigInteger.valueOf(b));
        return new BigInteger[] {
            t, u,
            t.subtract(bu).shiftRight(1), u.multiply(BigInteger.valueOf(-c)),
            u.multiply(BigInteger.valueOf(a)), t.add(bu).shiftRight(1),
            minusT, minusU
        };
    }
}
