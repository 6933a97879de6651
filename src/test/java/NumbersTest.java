import java.math.BigInteger;

/** Promises 6 to 9: sign, bits, word and residue, of all eight numbers. */
public final class NumbersTest {
    private static final int[] MODULI = {1, 2, 3, 9, 10, 997, 65536, 1000000, 1 << 30, 2147483646, Integer.MAX_VALUE};

    public static void main(String[] args) {
        // D and a form of it, among them some that make p or s or both of q and r below 0.
        int[][] forms = {{-3, 1, 1, 1}, {-3, 7, 5, 1}, {-3, -1, 1, -1}, {-4, 1, 0, 1}, {-4, -5, 4, -1}, {-7, 2, -1, 1},
            {-1048576, 1, 0, 262144}, {-1048575, -1, 1, -262144}, {5, -1, 3, -1}, {5, 1, -3, 1}, {5, 1, 1, -1},
            {12, -1, 0, 3}, {12, 1, 4, 1}, {61, 3, 7, -1}, {61, 1, -9, 5}, {1048573, 1, 1, -262143},
            {1048573, -1, 1025, -513}, {1007161, 1, 1003, -288}, {1007161, 1, -1005, 716}, {1048572, 1, 0, -262143},
            {1007161, 1, 65521, 1072998570}, {244, 1, 8, -45}, {244, 5, -8, -9}, {244, 1, 16, 3}, {244, -3, -16, -1}};
        for (int[] f : forms) {
            BigInteger[] due = new Reference(f[0]).numbers(f[1], f[2], f[3]);
            for (int i = 0; i < 8; i++) {
                UnitFinder x = Check.taken(f[0]);
                x.ask(f[1], f[2], f[3]);
                one(x, i, due[i], "D = " + f[0] + ", number " + i + ": ");
            }
        }
        wrongArguments(new UnitFinder());
        wrongArguments(Check.taken(1007161));
        Check.end();
    }

    private static void one(UnitFinder x, int i, BigInteger due, String name) {
        BigInteger size = due.abs();
        Check.due(name + "sign", x.sign(i), due.signum());
        Check.due(name + "bits", x.bits(i), size.bitLength());
        int last = size.bitLength() / 32 + 2;
        for (int k = 0; k < 512; k += k < last || k > 500 ? 1 : 37) {
            Check.due(name + "word " + k, x.word(i, k), size.shiftRight(32 * k).intValue());
        }
        Check.due(name + "word 511", x.word(i, 511), 0);
        for (int m : MODULI) {
            Check.due(name + "residue, m = " + m, x.residue(i, m), due.mod(BigInteger.valueOf(m)).intValueExact());
        }
    }

    private static void wrongArguments(UnitFinder x) {
        String before = Check.state(x);
        int[] noNumber = {-1, 8, 9, -8, Integer.MIN_VALUE, Integer.MAX_VALUE};
        for (int i : noNumber) {
            Check.throwing("sign(" + i + ")", Check.INDEX, () -> x.sign(i));
            Check.throwing("bits(" + i + ")", Check.INDEX, () -> x.bits(i));
            Check.throwing("word(" + i + ", 0)", Check.INDEX, () -> x.word(i, 0));
            Check.throwing("residue(" + i + ", 5)", Check.INDEX, () -> x.residue(i, 5));
            // Both are wrong: the document names the number first.
            Check.throwing("residue(" + i + ", 0)", Check.INDEX, () -> x.residue(i, 0));
        }
        int[] noWord = {-1, 512, 513, Integer.MIN_VALUE, Integer.MAX_VALUE};
        for (int k : noWord) {
            Check.throwing("word(0, " + k + ")", Check.INDEX, () -> x.word(0, k));
            Check.throwing("word(7, " + k + ")", Check.INDEX, () -> x.word(7, k));
        }
        int[] noModulus = {0, -1, Integer.MIN_VALUE};
        for (int m : noModulus) {
            Check.throwing("residue(0, " + m + ")", Check.ARGUMENT, () -> x.residue(0, m));
            Check.throwing("residue(7, " + m + ")", Check.ARGUMENT, () -> x.residue(7, m));
        }
        Check.due("the state after", Check.state(x), before);
    }
}
