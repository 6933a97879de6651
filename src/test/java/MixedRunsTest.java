import java.math.BigInteger;
import java.util.Random;

/** All promises: runs of 512 mixed calls, right and wrong ones, against the document's terms. */
public final class MixedRunsTest {
    private static final int[] EDGES = {Integer.MIN_VALUE, Integer.MIN_VALUE + 1, -1073741825, -1073741824, -1048577,
        -1048576, -5, -4, -3, -2, -1, 0, 1, 2, 3, 4, 5, 6, 7, 8, 9, 12, 31, 32, 511, 512, 1048575, 1048576, 1048577,
        1073741823, 1073741824, 1073741825, Integer.MAX_VALUE - 1, Integer.MAX_VALUE};

    private final Random random;
    private final UnitFinder x = new UnitFinder();
    private Reference reference = new Reference(-4);
    private long[] form = {1, 0, 1};

    private MixedRunsTest(int seed) {
        // A seed that is written down: the same calls come every time.
        random = new Random(seed);
    }

    public static void main(String[] args) {
        for (int seed = 1; seed <= 60; seed++) {
            MixedRunsTest run = new MixedRunsTest(seed);
            for (int call = 0; call < 512; call++) {
                run.oneCall("run " + seed + ", call " + call + ": ");
            }
        }
        Check.end();
    }

    private void oneCall(String at) {
        switch (random.nextInt(12)) {
            case 0: take(at, someD()); break;
            case 1: ask(at, new int[] {any(), any(), any()}); break;
            case 2: case 3: ask(at, someForm()); break;
            case 4: count(at, random.nextInt(6) - 1); break;
            case 5: case 6: power(at, any(), any(), random.nextInt(4) - 1); break;
            case 7: number(at, "sign", random.nextInt(10) - 1, 0); break;
            case 8: number(at, "bits", random.nextInt(10) - 1, 0); break;
            case 9: case 10: number(at, "word", random.nextInt(10) - 1, random.nextInt(20) == 0 ? any() : random.nextInt(60)); break;
            default: number(at, "residue", random.nextInt(10) - 1, any()); break;
        }
    }

    private int any() {
        switch (random.nextInt(4)) {
            case 0: return EDGES[random.nextInt(EDGES.length)];
            case 1: return random.nextInt(40) - 10;
            case 2: return random.nextInt(2000000) - 1000000;
            default: return random.nextInt();
        }
    }

    private int someD() {
        int kind = random.nextInt(4);
        return kind == 0 ? any() : kind == 1 ? random.nextInt(400) - 50 : random.nextInt(2097153) - 1048576;
    }

    /** The form asked latest, moved or turned: often one that can be asked, and at times twice one. */
    private int[] someForm() {
        long a = form[0];
        long b = form[1];
        long c = form[2];
        long k = random.nextInt(201) - 100;
        switch (random.nextInt(5)) {
            case 0: return new int[] {(int) c, (int) -b, (int) a};
            case 1: return new int[] {(int) -a, (int) b, (int) -c};
            case 2: return new int[] {(int) (2 * a), (int) b, (int) (c / 2)};
            default: return new int[] {(int) a, (int) (b + 2 * a * k), (int) (a * k * k + b * k + c)};
        }
    }

    private void take(String at, int d) {
        String name = at + "take(" + d + ")";
        if (!Reference.canBeTaken(d)) {
            Check.throwing(name, Check.ARGUMENT, () -> x.take(d));
            return;
        }
        reference = new Reference(d);
        long b = Math.floorMod(d, 4);
        form = new long[] {1, b, (b - d) / 4};
        Check.due(name, x.take(d), reference.t.bitLength());
    }

    private void ask(String at, int[] f) {
        String name = at + "ask(" + f[0] + ", " + f[1] + ", " + f[2] + ")";
        BigInteger a = BigInteger.valueOf(f[0]);
        BigInteger b = BigInteger.valueOf(f[1]);
        BigInteger c = BigInteger.valueOf(f[2]);
        boolean right = b.multiply(b).subtract(a.multiply(c).shiftLeft(2)).equals(reference.big)
                && a.gcd(b).gcd(c).equals(BigInteger.ONE);
        for (int coefficient : f) {
            right &= Math.abs((long) coefficient) <= 1073741824L;
        }
        Check.throwing(name, right ? "nothing" : Check.ARGUMENT, () -> x.ask(f[0], f[1], f[2]));
        if (right) {
            form = new long[] {f[0], f[1], f[2]};
        }
    }

    private void count(String at, int what) {
        int units = reference.d > 0 ? -1 : reference.d == -3 ? 6 : reference.d == -4 ? 4 : 2;
        int[] due = {-1, reference.d, reference.ring.size(), reference.minusU.signum(), units, -1};
        Check.due(at + "count(" + what + ") of " + reference.d, x.count(what), due[what + 1]);
    }

    private void power(String at, int n, int m, int which) {
        String name = at + "power(" + n + ", " + m + ", " + which + ") of " + reference.d;
        if (n < 0 || m < 1 || which < 0 || which > 1) {
            Check.throwing(name, Check.ARGUMENT, () -> x.power(n, m, which));
            return;
        }
        Check.due(name, x.power(n, m, which), powerByMatrix(n, BigInteger.valueOf(m), which));
    }

    /** The recurrence's matrix (t, -1, 1, 0), raised by squaring and laid on (v(1), v(0)). */
    private int powerByMatrix(int n, BigInteger m, int which) {
        BigInteger[] base = {reference.t.mod(m), BigInteger.ONE.negate().mod(m), BigInteger.ONE.mod(m), BigInteger.ZERO};
        BigInteger[] raised = {BigInteger.ONE, BigInteger.ZERO, BigInteger.ZERO, BigInteger.ONE};
        for (int bit = 31; bit >= 0; bit--) {
            raised = times(raised, raised, m);
            raised = (n >>> bit & 1) == 1 ? times(raised, base, m) : raised;
        }
        BigInteger one = which == 0 ? reference.t : reference.u;
        BigInteger zero = which == 0 ? BigInteger.TWO : BigInteger.ZERO;
        return raised[2].multiply(one).add(raised[3].multiply(zero)).mod(m).intValueExact();
    }

    private static BigInteger[] times(BigInteger[] a, BigInteger[] b, BigInteger m) {
        return new BigInteger[] {
            a[0].multiply(b[0]).add(a[1].multiply(b[2])).mod(m), a[0].multiply(b[1]).add(a[1].multiply(b[3])).mod(m),
            a[2].multiply(b[0]).add(a[3].multiply(b[2])).mod(m), a[2].multiply(b[1]).add(a[3].multiply(b[3])).mod(m)
        };
    }

    private void number(String at, String call, int i, int other) {
        String name = at + call + "(" + i + ", " + other + ") of " + reference.d;
        boolean noWord = call.equals("word") && (other < 0 || other > 511);
        if (i < 0 || i > 7 || noWord) {
            Check.throwing(name, Check.INDEX, () -> answer(call, i, other));
            return;
        }
        if (call.equals("residue") && other < 1) {
            Check.throwing(name, Check.ARGUMENT, () -> answer(call, i, other));
            return;
        }
        BigInteger due = reference.numbers(form[0], form[1], form[2])[i];
        switch (call) {
            case "sign": Check.due(name, answer(call, i, other), due.signum()); break;
            case "bits": Check.due(name, answer(call, i, other), due.abs().bitLength()); break;
            case "word": Check.due(name, answer(call, i, other), due.abs().shiftRight(32 * other).intValue()); break;
            default: Check.due(name, answer(call, i, other), due.mod(BigInteger.valueOf(other)).intValueExact()); break;
        }
    }

    private int answer(String call, int i, int other) {
        switch (call) {
            case "sign": return x.sign(i);
            case "bits": return x.bits(i);
            case "word": return x.word(i, other);
            default: return x.residue(i, other);
        }
    }
}
