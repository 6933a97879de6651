import com.sun.management.ThreadMXBean;
import java.lang.management.ManagementFactory;
import java.math.BigInteger;

/** The boundary cases that "What it is" and "Terms" name: one method for each sentence or part of one. */
public final class SentencesOfTermsTest {
    /** The D with the longest unit and the longest ring. */
    private static final int LONGEST = 1007161;
    private static final int MOST = Integer.MAX_VALUE;

    public static void main(String[] args) {
        Check.sentence("What it is", "An object is used for at most 512 calls after it has been made;",
                SentencesOfTermsTest::atMost512Calls);
        Check.sentence("Terms", "All memory is its own, made once.", SentencesOfTermsTest::memoryIsItsOwn);
        Check.sentence("Terms", "All memory is its own, made once.", SentencesOfTermsTest::memoryIsMadeOnce);
        Check.sentence("Terms", "It is PRIMITIVE if no number above 1 goes into a, b and c.", SentencesOfTermsTest::primitive);
        Check.sentence("Terms", "D can be taken if it is some form's,", SentencesOfTermsTest::someFormsDiscriminant);
        Check.sentence("Terms", "no square,", SentencesOfTermsTest::noSquare);
        Check.sentence("Terms", "and from -1048576 to 1048576.", SentencesOfTermsTest::fromLeastToMost);
        Check.sentence("Terms", "if D is above 0 the numbers t and u above 0 with t t - D u u = 4",
                SentencesOfTermsTest::unitAbove);
        Check.sentence("Terms", "of which u is least;", SentencesOfTermsTest::uIsLeast);
        Check.sentence("Terms", "(1, 1) for D = -3,", SentencesOfTermsTest::unitOfMinus3);
        Check.sentence("Terms", "(0, 1) for D = -4,", SentencesOfTermsTest::unitOfMinus4);
        Check.sentence("Terms", "(2, 0) for other D below 0.", SentencesOfTermsTest::unitOfOthersBelow);
        Check.sentence("Terms", "POWER n of it, n not below 0: t(0) = 2, u(0) = 0, t(1) = t, u(1) = u,",
                SentencesOfTermsTest::powersZeroAndOne);
        Check.sentence("Terms", "t(n + 1) = t t(n) - t(n - 1), u(n + 1) = t u(n) - u(n - 1).", SentencesOfTermsTest::laterPowers);
        Check.sentence("Terms", "(p, q, r, s) = ((t - b u) / 2, - c u, a u, (t + b u) / 2).", SentencesOfTermsTest::automorph);
        Check.sentence("Terms", "(The form f(p x + q y, r x + s y) is f again.)", SentencesOfTermsTest::formAgain);
        Check.sentence("Terms", "of (1, b, (b b - D) / 4) with the greatest b whose square is below D and is like D modulo 4,",
                SentencesOfTermsTest::firstOfTheRing);
        Check.sentence("Terms", "and its NEXTS until it comes again:", SentencesOfTermsTest::untilItComesAgain);
        Check.sentence("Terms", "next of (a, b, c) is (c, e, (e e - D) / (4 c)), 2 c going into b + e,"
                        + " with the greatest e below R if |c| is below R, otherwise the e from 1 - |c| to |c|.",
                SentencesOfTermsTest::nexts);
        Check.sentence("Terms", "2 .. 5: the automorph of the form ASKED latest (since D was taken;",
                SentencesOfTermsTest::askedLatest);
        Check.sentence("Terms", "before that (1, 0, - D / 4) or (1, 1, (1 - D) / 4));", SentencesOfTermsTest::beforeAnyIsAsked);
        Check.sentence("Terms", "6, 7: the least t, u above 0 with t t - D u u = -4,", SentencesOfTermsTest::minusFour);
        Check.sentence("Terms", "both 0 if there are none.", SentencesOfTermsTest::noneOfMinusFour);
        Check.end();
    }

    private static void atMost512Calls() {
        Check.due("the 512th call, take,", after511Calls().take(LONGEST), 7825);
        Check.due("the 512th call, count,", after511Calls().count(0), 61);
        Check.due("the 512th call, power,", after511Calls().power(2, MOST, 0), 2319527);
        Check.due("the 512th call, sign,", after511Calls().sign(3), -1);
        Check.due("the 512th call, bits,", after511Calls().bits(5), 11);
        Check.due("the 512th call, word,", after511Calls().word(2, 0), 79);
        Check.due("the 512th call, residue,", after511Calls().residue(3, 1000), 415);
        Check.throwing("the 512th call, ask,", "nothing", () -> after511Calls().ask(3, 7, -1));
        Check.throwing("the 512th call, a wrong ask,", Check.ARGUMENT, () -> after511Calls().ask(3, 7, 1));
        Check.throwing("the 512th call, a wrong take,", Check.ARGUMENT, () -> after511Calls().take(4));
    }

    /** The dearest calls and refused ones in turns, so that what either leaves behind would pile up. */
    private static UnitFinder after511Calls() {
        UnitFinder x = new UnitFinder();
        for (int call = 1; call <= 509; call++) {
            if (call % 2 == 1) {
                x.take(LONGEST);
            } else {
                Check.throwing("call " + call + ", take(4),", Check.ARGUMENT, () -> x.take(4));
            }
        }
        x.take(61);
        x.ask(-1, 7, 3);
        return x;
    }

    private static void memoryIsItsOwn() {
        UnitFinder x = Check.asked(61, -1, 7, 3);
        UnitFinder y = Check.asked(5, -1, 3, -1);
        Check.taken(LONGEST);
        Check.numbers("61 beside other objects", x, 0, 1523, 195, 79, -585, -195, 1444, 39, 5);
        x.take(LONGEST);
        Check.numbers("5 beside other objects", y, 0, 3, 1, 0, 1, -1, 3, 1, 1);
        Check.due("count(0) beside other objects", y.count(0), 5);
        Check.due("count(1) beside other objects", y.count(1), 2);
    }

    private static void memoryIsMadeOnce() {
        ThreadMXBean memory = (ThreadMXBean) ManagementFactory.getThreadMXBean();
        // The first time round the machine itself may load something.
        allKindsOfCalls(new UnitFinder());
        memory.getCurrentThreadAllocatedBytes();
        UnitFinder x = new UnitFinder();
        long before = memory.getCurrentThreadAllocatedBytes();
        allKindsOfCalls(x);
        long made = memory.getCurrentThreadAllocatedBytes() - before;
        // A single row of words for each take would make over 100,000.
        Check.due("480 calls make less than 10,000 bytes: " + made, made < 10000, true);
    }

    private static void allKindsOfCalls(UnitFinder x) {
        for (int turn = 0; turn < 60; turn++) {
            x.take(LONGEST);
            x.ask(1, 65521, 1072998570);
            x.count(1);
            x.power(MOST, MOST, 0);
            x.sign(2);
            x.bits(2);
            x.word(2, 244);
            x.residue(2, MOST);
        }
    }

    private static void primitive() {
        // Two of the three have a common divisor, each pair in turn and all pairs at once; zeros; signs.
        int[][] are = {{2, 3, 4}, {4, 6, 3}, {3, 6, 4}, {6, 10, 15}, {-6, -10, -15}, {6, -10, 15}, {1, 0, 4}, {4, 0, 1},
            {3, 0, -4}, {-3, 0, 4}, {1, 2, -4}, {1, 1, -11}, {587, 587, 586}, {586, 587, 587}, {587, 586, 587}};
        for (int[] f : are) {
            Check.throwing(ask(f), "nothing", () -> Check.asked(discriminant(f), f[0], f[1], f[2]));
        }
        int[][] not = {{2, 2, -2}, {2, 6, 2}, {2, 2, 2}, {-2, 2, -2}, {2, 0, 2}, {2, 0, -6}, {-6, 0, 2}, {3, 3, -3}, {4, 4, 8},
            {587, 587, 587}, {-587, 587, -587}, {587, -587, 587}, {6, 10, 14}, {15, 10, 5}, {6, 9, 15}};
        for (int[] f : not) {
            UnitFinder x = Check.taken(discriminant(f));
            Check.throwing(ask(f), Check.ARGUMENT, () -> x.ask(f[0], f[1], f[2]));
        }
    }

    private static String ask(int[] f) {
        return "ask(" + f[0] + ", " + f[1] + ", " + f[2] + ")";
    }

    private static int discriminant(int[] f) {
        return Math.toIntExact((long) f[1] * f[1] - 4L * f[0] * f[2]);
    }

    private static void someFormsDiscriminant() {
        int[] are = {-1048576, -1048575, -1048572, -12, -11, -8, -7, -4, -3, 5, 8, 12, 13, 1048568, 1048569, 1048572, 1048573};
        for (int d : are) {
            takes(d, true);
        }
        int[] not = {-1048574, -1048573, -10, -9, -6, -5, -2, -1, 2, 3, 6, 7, 10, 11, 1048570, 1048571, 1048574, 1048575};
        for (int d : not) {
            takes(d, false);
        }
    }

    private static void noSquare() {
        for (int root = 0; root <= 1024; root++) {
            takes(root * root, false);
        }
        for (int root = 3; root <= 1023; root++) {
            // The next ones on both sides of the square that are some form's.
            int even = 1 - root % 2;
            takes(root * root - (even == 1 ? 3 : 1), true);
            takes(root * root + (even == 1 ? 1 : 3), true);
        }
    }

    private static void fromLeastToMost() {
        takes(-1048576, true);
        takes(-1048575, true);
        // 1048576 is a square, the two before it are no form's: these are the greatest.
        takes(1048573, true);
        takes(1048572, true);
        int[] outside = {-1048579, -1048580, 1048577, 1048580, 1048581, -2147483647, Integer.MIN_VALUE, 2147483645, 2147483644};
        for (int d : outside) {
            takes(d, false);
        }
    }

    private static void takes(int d, boolean can) {
        UnitFinder x = new UnitFinder();
        Check.throwing("take(" + d + ")", can ? "nothing" : Check.ARGUMENT, () -> x.take(d));
    }

    private static void unitAbove() {
        long[][] known = {{5, 3, 1}, {8, 6, 2}, {12, 4, 1}, {13, 11, 3}, {17, 66, 16}, {20, 18, 4}, {21, 5, 1}, {61, 1523, 195},
            {244, 3532638098L, 226153980}, {1046525, 1023, 1}, {1046533, 1046531, 1023}, {1048572, 1024, 1}};
        for (long[] row : known) {
            Check.numbers("D = " + row[0], Check.taken((int) row[0]), 0, row[1], row[2]);
        }
        int[] far = {1048568, 1048569, 1048573, LONGEST};
        for (int d : far) {
            BigInteger t = Check.number(Check.taken(d), 0);
            BigInteger u = Check.number(Check.taken(d), 1);
            BigInteger four = t.multiply(t).subtract(u.multiply(u).multiply(BigInteger.valueOf(d)));
            Check.due("t t - D u u of " + d, four, BigInteger.valueOf(4));
            Check.due("t and u of " + d + " above 0", t.signum() + u.signum(), 2);
        }
    }

    private static void uIsLeast() {
        for (int d = 5; d < 1000; d++) {
            if (Reference.canBeTaken(d)) {
                BigInteger u = Check.number(Check.taken(d), 1);
                long most = u.min(BigInteger.valueOf(5000)).longValueExact();
                Check.due("the first u by trial up to " + most + ", D = " + d, firstByTrial(d, most), u.longValue() == most ? most : 0L);
            }
        }
    }

    /** The least u from 1 to most with D u u + 4 a square, 0 if there is none. */
    private static long firstByTrial(int d, long most) {
        for (long u = 1; u <= most; u++) {
            long square = d * u * u + 4;
            long root = (long) Math.sqrt((double) square);
            for (long t = root - 1; t <= root + 1; t++) {
                if (t * t == square) {
                    return u;
                }
            }
        }
        return 0;
    }

    private static void unitOfMinus3() {
        unitAfterOthers(-3, 1, 1);
    }

    private static void unitOfMinus4() {
        Check.numbers("a new object", new UnitFinder(), 0, 0, 1);
        unitAfterOthers(-4, 0, 1);
    }

    private static void unitOfOthersBelow() {
        int[] others = {-7, -8, -11, -12, -15, -16, -27, -36, -1048572, -1048575, -1048576};
        for (int d : others) {
            unitAfterOthers(d, 2, 0);
        }
    }

    private static void unitAfterOthers(int d, long t, long u) {
        int[] others = {-4, -3, -8, 5, LONGEST};
        for (int other : others) {
            UnitFinder x = Check.taken(other);
            x.take(d);
            Check.numbers("D = " + d + " after " + other, x, 0, t, u);
        }
    }

    private static void powersZeroAndOne() {
        // D, and t and u modulo the greatest m.
        int[][] known = {{-3, 1, 1}, {-4, 0, 1}, {-7, 2, 0}, {-1048576, 2, 0}, {5, 3, 1}, {12, 4, 1}, {61, 1523, 195},
            {1048573, 1409308645, 1702910438}, {LONGEST, 2088550929, 788831621}};
        for (int[] row : known) {
            UnitFinder x = Check.taken(row[0]);
            Check.due("t(0) of " + row[0], x.power(0, MOST, 0), 2);
            Check.due("u(0) of " + row[0], x.power(0, MOST, 1), 0);
            Check.due("t(1) of " + row[0], x.power(1, MOST, 0), row[1]);
            Check.due("u(1) of " + row[0], x.power(1, MOST, 1), row[2]);
        }
    }

    private static void laterPowers() {
        powers(-3, new long[] {2, 1, -1, -2, -1, 1, 2, 1}, new long[] {0, 1, 1, 0, -1, -1, 0, 1});
        powers(-4, new long[] {2, 0, -2, 0, 2, 0, -2}, new long[] {0, 1, 0, -1, 0, 1, 0});
        powers(-7, new long[] {2, 2, 2, 2}, new long[] {0, 0, 0, 0});
        powers(5, new long[] {2, 3, 7, 18, 47, 123}, new long[] {0, 1, 3, 8, 21, 55});
        powers(8, new long[] {2, 6, 34, 198}, new long[] {0, 2, 12, 70});
        powers(61, new long[] {2, 1523, 2319527, 3532638098L}, new long[] {0, 195, 296985, 452307960});
    }

    private static void powers(int d, long[] t, long[] u) {
        UnitFinder x = Check.taken(d);
        for (int n = 0; n < t.length; n++) {
            Check.due("t(" + n + ") of " + d, x.power(n, MOST, 0), (int) Math.floorMod(t[n], (long) MOST));
            Check.due("u(" + n + ") of " + d, x.power(n, MOST, 1), (int) Math.floorMod(u[n], (long) MOST));
        }
    }

    private static void automorph() {
        Check.numbers("(-1, 3, -1) of 5", Check.asked(5, -1, 3, -1), 2, 0, 1, -1, 3);
        Check.numbers("(-1, -3, -1) of 5", Check.asked(5, -1, -3, -1), 2, 3, 1, -1, 0);
        Check.numbers("(-1, 7, 3) of 61", Check.asked(61, -1, 7, 3), 2, 79, -585, -195, 1444);
        Check.numbers("(7, 5, 1) of -3", Check.asked(-3, 7, 5, 1), 2, -2, -1, 7, 3);
        Check.numbers("(7, -5, 1) of -3", Check.asked(-3, 7, -5, 1), 2, 3, -1, 7, -2);
        Check.numbers("(5, 4, 1) of -4", Check.asked(-4, 5, 4, 1), 2, -2, -1, 5, 2);
        Check.numbers("(2, -1, 1) of -7", Check.asked(-7, 2, -1, 1), 2, 1, 0, 0, 1);
        Check.numbers("(1, 0, 262144) of -1048576", Check.asked(-1048576, 1, 0, 262144), 2, 1, 0, 0, 1);
        Check.numbers("a = 2^30 of 17", Check.asked(17, 1 << 30, 869476073, 176017322), 2,
                -6955808551L, -2816277152L, 17179869184L, 6955808617L);
        Check.numbers("a = -2^30 of 17", Check.asked(17, -1 << 30, -869476073, -176017322), 2,
                6955808617L, 2816277152L, -17179869184L, -6955808551L);
    }

    private static void formAgain() {
        int[][] forms = {{1, 0, 1}, {7, 5, 1}, {-1, 3, -1}, {3, 7, -1}, {1 << 30, 869476073, 176017322}, {1, 1003, -288},
            {1, 65521, 1072998570}, {-1072998570, -65521, -1}, {1, 1023, -511}, {1, 65534, 1073741824}};
        for (int[] f : forms) {
            int d = discriminant(f);
            BigInteger[] m = new BigInteger[4];
            for (int i = 0; i < 4; i++) {
                m[i] = Check.number(Check.asked(d, f[0], f[1], f[2]), 2 + i);
            }
            BigInteger a = BigInteger.valueOf(f[0]);
            BigInteger b = BigInteger.valueOf(f[1]);
            BigInteger c = BigInteger.valueOf(f[2]);
            Check.due("a of " + ask(f), value(a, b, c, m[0], m[2]), a);
            Check.due("c of " + ask(f), value(a, b, c, m[1], m[3]), c);
            Check.due("a + b + c of " + ask(f), value(a, b, c, m[0].add(m[1]), m[2].add(m[3])), a.add(b).add(c));
        }
    }

    private static BigInteger value(BigInteger a, BigInteger b, BigInteger c, BigInteger x, BigInteger y) {
        return a.multiply(x).multiply(x).add(b.multiply(x).multiply(y)).add(c.multiply(y).multiply(y));
    }

    private static void firstOfTheRing() {
        // D next to a square of either kind, where b is the root, one below it or two below it.
        int[][] known = {{5, 2}, {8, 2}, {12, 2}, {13, 2}, {17, 6}, {20, 2}, {21, 2}, {1044480, 2}, {1044488, 2},
            {1046525, 2}, {1046533, 2}, {1048568, 4}, {1048569, 776}, {1048572, 2}, {1048573, 1106}};
        for (int[] row : known) {
            Check.due("the ring of " + row[0], Check.taken(row[0]).count(1), row[1]);
        }
    }

    private static void untilItComesAgain() {
        // (1, 1, -1), (-1, 1, 1): the shortest that there is.
        Check.due("the ring of 5", Check.taken(5).count(1), 2);
        // (1, 3, -2), (-2, 1, 2), (2, 3, -1), (-1, 3, 2), (2, 1, -2), (-2, 3, 1): (-1, 3, 2) isn't the first again.
        Check.due("the ring of 17", Check.taken(17).count(1), 6);
        // (1, 4, -3), (-3, 2, 2), (2, 2, -3), (-3, 4, 1): here no -1 comes.
        Check.due("the ring of 28", Check.taken(28).count(1), 4);
        Check.due("the longest ring", Check.taken(LONGEST).count(1), 4706);
    }

    private static void nexts() {
        for (int d = 5; d < 1000; d++) {
            if (Reference.canBeTaken(d)) {
                Check.due("the ring of " + d, Check.taken(d).count(1), new Reference(d).ring.size());
            }
        }
    }

    private static void askedLatest() {
        UnitFinder x = Check.asked(5, -1, 3, -1);
        x.ask(1, -1, -1);
        Check.numbers("the second form asked", x, 2, 2, 1, 1, 1);
        x.take(61);
        Check.numbers("61 taken after", x, 2, 664, 2925, 195, 859);
        x.take(5);
        Check.numbers("5 taken again", x, 2, 1, 1, 1, 2);
        x.ask(-1, 3, -1);
        x.take(5);
        Check.numbers("5 taken twice on end", x, 2, 1, 1, 1, 2);
        UnitFinder y = Check.asked(-4, 5, 4, 1);
        y.take(-4);
        Check.numbers("-4 taken again", y, 2, 0, -1, 1, 0);
    }

    private static void beforeAnyIsAsked() {
        Check.numbers("a new object", new UnitFinder(), 2, 0, -1, 1, 0);
        long[][] known = {{-3, 0, -1, 1, 1}, {-7, 1, 0, 0, 1}, {-8, 1, 0, 0, 1}, {-1048575, 1, 0, 0, 1}, {-1048576, 1, 0, 0, 1},
            {5, 1, 1, 1, 2}, {8, 3, 4, 2, 3}, {12, 2, 3, 1, 2}, {61, 664, 2925, 195, 859}, {1048572, 512, 262143, 1, 512},
            {1046533, 522754, 267650559, 1023, 523777}};
        for (long[] row : known) {
            Check.numbers("D = " + row[0], Check.taken((int) row[0]), 2, row[1], row[2], row[3], row[4]);
        }
    }

    private static void minusFour() {
        long[][] known = {{5, 1, 1}, {8, 2, 1}, {13, 3, 1}, {17, 8, 2}, {20, 4, 1}, {61, 39, 5}, {244, 59436, 3805},
            {1044488, 1022, 1}, {1046533, 1023, 1}};
        for (long[] row : known) {
            Check.numbers("D = " + row[0], Check.taken((int) row[0]), 6, row[1], row[2]);
        }
    }

    private static void noneOfMinusFour() {
        UnitFinder x = new UnitFinder();
        Check.numbers("a new object", x, 6, 0, 0);
        int[] none = {-3, -4, -7, -1048576, 12, 21, 28, 1046525, 1048572};
        for (int d : none) {
            x.take(61);
            x.take(d);
            Check.numbers("D = " + d + " after 61", x, 6, 0, 0);
        }
    }
}
