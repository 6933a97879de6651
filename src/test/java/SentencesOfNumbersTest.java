/** The boundary cases that promises 6 to 9 name: one method for each sentence or part of one. */
public final class SentencesOfNumbersTest {
    private static final int MOST = Integer.MAX_VALUE;
    private static final int LEAST = Integer.MIN_VALUE;
    private static final int LONGEST = 1007161;
    private static final int[] NO_NUMBER = {-1, 8, -8, 9, 256, LEAST, MOST};
    private static final int[] NO_WORD = {-1, 512, 513, 1 << 27, LEAST, MOST};
    private static final int[] NO_MODULUS = {0, -1, -2, LEAST, -MOST};

    public static void main(String[] args) {
        Check.sentence("Promise 6", "-1, 0, 1 as number i is below 0, 0, above.", SentencesOfNumbersTest::signOfNumbers);
        Check.sentence("Promise 6", "IndexOutOfBoundsException: i isn't 0 .. 7.", SentencesOfNumbersTest::signWithoutNumber);
        Check.sentence("Promise 7", "How many bits the size (the number without its sign) of number i has,",
                SentencesOfNumbersTest::bitsOfSize);
        Check.sentence("Promise 7", "without zeros ahead.", SentencesOfNumbersTest::bitsWithoutZerosAhead);
        Check.sentence("Promise 7", "IndexOutOfBoundsException: likewise.", SentencesOfNumbersTest::bitsWithoutNumber);
        Check.sentence("Promise 8", "Bits 32 k .. 32 k + 31 of its size,", SentencesOfNumbersTest::wordsOfSize);
        Check.sentence("Promise 8", "as an int.", SentencesOfNumbersTest::wordAsAnInt);
        Check.sentence("Promise 8", "Bits 32 k .. 32 k + 31 of its size,", SentencesOfNumbersTest::wordsPastTheSize);
        Check.sentence("Promise 8", "IndexOutOfBoundsException: also if k isn't 0 .. 511.",
                SentencesOfNumbersTest::wordWithoutNumber);
        Check.sentence("Promise 8", "IndexOutOfBoundsException: also if k isn't 0 .. 511.",
                SentencesOfNumbersTest::wordWithoutWord);
        Check.sentence("Promise 9", "The number 0 .. m - 1 that is less than number i by a multiple of m.",
                SentencesOfNumbersTest::residueFromZero);
        Check.sentence("Promise 9", "The number 0 .. m - 1 that is less than number i by a multiple of m.",
                SentencesOfNumbersTest::residueOfNumberBelowZero);
        Check.sentence("Promise 9", "The number 0 .. m - 1 that is less than number i by a multiple of m.",
                SentencesOfNumbersTest::residueOfEdges);
        Check.sentence("Promise 9", "IndexOutOfBoundsException: there is no such number;",
                SentencesOfNumbersTest::residueWithoutNumber);
        Check.sentence("Promise 9", "IllegalArgumentException: m is below 1.", SentencesOfNumbersTest::residueWithoutModulus);
        Check.end();
    }

    private static void signOfNumbers() {
        signs(new UnitFinder(), 0, 1, 0, -1, 1, 0, 0, 0);
        signs(Check.taken(-7), 1, 0, 1, 0, 0, 1, 0, 0);
        signs(Check.asked(-7, -2, 1, -1), 1, 0, 1, 0, 0, 1, 0, 0);
        signs(Check.asked(-3, 7, 5, 1), 1, 1, -1, -1, 1, 1, 0, 0);
        signs(Check.asked(-3, -7, 5, -1), 1, 1, -1, 1, -1, 1, 0, 0);
        signs(Check.asked(5, -1, 3, -1), 1, 1, 0, 1, -1, 1, 1, 1);
        signs(Check.asked(5, 1, -3, 1), 1, 1, 1, -1, 1, 0, 1, 1);
        signs(Check.asked(61, -1, 7, 3), 1, 1, 1, -1, -1, 1, 1, 1);
        signs(Check.asked(12, -1, 4, -1), 1, 1, 0, 1, -1, 1, 0, 0);
        signs(Check.asked(LONGEST, 1, 65521, 1072998570), 1, 1, -1, -1, 1, 1, 1, 1);
        signs(Check.asked(LONGEST, -1, -65521, -1072998570), 1, 1, 1, 1, -1, -1, 1, 1);
    }

    private static void signs(UnitFinder x, int... due) {
        for (int i = 0; i < 8; i++) {
            Check.due("sign(" + i + ") of " + x.count(0), x.sign(i), due[i]);
        }
    }

    private static void signWithoutNumber() {
        Check.throwing("sign(0)", "nothing", () -> new UnitFinder().sign(0));
        Check.throwing("sign(7)", "nothing", () -> new UnitFinder().sign(7));
        for (int i : NO_NUMBER) {
            UnitFinder x = some();
            Check.refused(x, "sign(" + i + ")", Check.INDEX, () -> x.sign(i));
        }
    }

    private static void bitsOfSize() {
        // -1, -2, -585 and -2^31: by two's complement one of them would have another size.
        bits(new UnitFinder(), 0, 1, 0, 1, 1, 0, 0, 0);
        bits(Check.asked(-3, 7, 5, 1), 1, 1, 2, 1, 3, 2, 0, 0);
        bits(Check.asked(61, -1, 7, 3), 11, 8, 7, 10, 8, 11, 6, 3);
        bits(Check.asked(17, 134217728, 64169705, 7669909), 7, 5, 29, 27, 32, 29, 4, 2);
        bits(Check.asked(17, -134217728, 64169705, -7669909), 7, 5, 29, 27, 32, 29, 4, 2);
        bits(Check.asked(17, 268435456, 332605161, 103028671), 7, 5, 32, 31, 33, 32, 4, 2);
        bits(Check.asked(17, -268435456, -332605161, -103028671), 7, 5, 32, 31, 33, 32, 4, 2);
        bits(Check.asked(341, 286331153, -201179563, 35337769), 9, 4, 31, 29, 32, 31, 0, 0);
    }

    private static void bits(UnitFinder x, int... due) {
        for (int i = 0; i < 8; i++) {
            Check.due("bits(" + i + ") of " + x.count(0), x.bits(i), due[i]);
        }
    }

    private static void bitsWithoutZerosAhead() {
        // A long number first, so that words of it stand above the short ones.
        int[][] known = {{-4, 0}, {-3, 1}, {-7, 2}, {233, 31}, {244, 32}, {1012, 33}, {1417, 64}, {569, 65}, {601, 96}, {2389, 97}};
        for (int[] row : known) {
            UnitFinder x = Check.taken(LONGEST);
            Check.due("bits(0) of " + LONGEST, x.bits(0), 7825);
            x.take(row[0]);
            Check.due("bits(0) of " + row[0], x.bits(0), row[1]);
        }
        // Where the difference of t and b u is 0.
        Check.due("bits(2) of 5", Check.asked(5, -1, 3, -1).bits(2), 0);
        Check.due("bits(5) of 5", Check.asked(5, -1, -3, -1).bits(5), 0);
    }

    private static void bitsWithoutNumber() {
        Check.throwing("bits(0)", "nothing", () -> new UnitFinder().bits(0));
        Check.throwing("bits(7)", "nothing", () -> new UnitFinder().bits(7));
        for (int i : NO_NUMBER) {
            UnitFinder x = some();
            Check.refused(x, "bits(" + i + ")", Check.INDEX, () -> x.bits(i));
        }
    }

    private static void wordsOfSize() {
        // Below 0 the size stands there, not the two's complement.
        words(Check.asked(61, -1, 7, 3), 3, 585, 0);
        words(Check.asked(-3, 7, 5, 1), 2, 2, 0);
        // 2^31, 2^32 - 1, 2^32 and 2^34, above 0 and below.
        words(Check.asked(17, 134217728, 64169705, 7669909), 4, LEAST, 0, 0);
        words(Check.asked(17, -134217728, 64169705, -7669909), 4, LEAST, 0, 0);
        words(Check.asked(341, 286331153, -201179563, 35337769), 4, -1, 0, 0);
        words(Check.asked(341, -286331153, -201179563, -35337769), 4, -1, 0, 0);
        words(Check.asked(17, 268435456, 332605161, 103028671), 4, 0, 1, 0);
        words(Check.asked(17, -268435456, 332605161, -103028671), 4, 0, 1, 0);
        words(Check.asked(17, 1 << 30, 869476073, 176017322), 4, 0, 4, 0);
        // p is -6955808551 = -(2^32 + 2660841255).
        words(Check.asked(17, 1 << 30, 869476073, 176017322), 2, (int) 2660841255L, 1, 0);
    }

    private static void words(UnitFinder x, int i, int... due) {
        for (int k = 0; k < due.length; k++) {
            Check.due("word(" + i + ", " + k + ") of " + x.count(0), x.word(i, k), due[k]);
        }
    }

    private static void wordAsAnInt() {
        // t of 244 is 3532638098, above all ints; t of 1012 is 2^32 + 2150267502.
        Check.due("word(0, 0) of 244", Check.taken(244).word(0, 0), -762329198);
        Check.due("word(4, 0) of 341", Check.asked(341, 286331153, -201179563, 35337769).word(4, 0), -1);
        Check.due("word(0, 0) of 1012", Check.taken(1012).word(0, 0), -2144699794);
    }

    private static void wordsPastTheSize() {
        // Those above the size are 0, also where a longer number stood before.
        UnitFinder x = Check.taken(LONGEST);
        Check.due("word(0, 244), the highest of the longest, is 0", x.word(0, 244) == 0, false);
        Check.due("word(0, 245)", x.word(0, 245), 0);
        Check.due("word(0, 511)", x.word(0, 511), 0);
        x.take(5);
        x.ask(-1, 3, -1);
        int[] past = {1, 2, 100, 244, 245, 510, 511};
        for (int i = 0; i < 8; i++) {
            for (int k : past) {
                Check.due("word(" + i + ", " + k + ") of 5", x.word(i, k), 0);
            }
        }
        Check.due("word(2, 0) of a number 0", x.word(2, 0), 0);
    }

    private static void wordWithoutNumber() {
        // "Also": it is thrown without such a number too, whatever k is.
        for (int i : NO_NUMBER) {
            UnitFinder x = some();
            Check.refused(x, "word(" + i + ", 0)", Check.INDEX, () -> x.word(i, 0));
            UnitFinder y = some();
            Check.refused(y, "word(" + i + ", 512)", Check.INDEX, () -> y.word(i, 512));
        }
        Check.throwing("word(0, 0)", "nothing", () -> some().word(0, 0));
        Check.throwing("word(7, 0)", "nothing", () -> some().word(7, 0));
    }

    private static void wordWithoutWord() {
        for (int i = 0; i < 8; i++) {
            int number = i;
            Check.throwing("word(" + i + ", 0)", "nothing", () -> some().word(number, 0));
            Check.throwing("word(" + i + ", 511)", "nothing", () -> some().word(number, 511));
            for (int k : NO_WORD) {
                UnitFinder x = some();
                Check.refused(x, "word(" + i + ", " + k + ")", Check.INDEX, () -> x.word(number, k));
            }
        }
    }

    private static void residueFromZero() {
        // t is 1523: m around it, 1, and the greatest.
        UnitFinder x = Check.taken(61);
        int[][] known = {{1, 0}, {2, 1}, {1522, 1}, {1523, 0}, {1524, 1523}, {MOST - 1, 1523}, {MOST, 1523}};
        for (int[] row : known) {
            Check.due("residue(0, " + row[0] + ") of 61", x.residue(0, row[0]), row[1]);
        }
    }

    private static void residueOfNumberBelowZero() {
        // q is -585: m that go into it, m around it, and the greatest.
        UnitFinder x = Check.asked(61, -1, 7, 3);
        int[][] known = {{1, 0}, {2, 1}, {3, 0}, {5, 0}, {13, 0}, {117, 0}, {584, 583}, {585, 0}, {586, 1}, {1000, 415},
            {MOST - 1, 2147483061}, {MOST, 2147483062}};
        for (int[] row : known) {
            Check.due("residue(3, " + row[0] + ") of 61", x.residue(3, row[0]), row[1]);
        }
        UnitFinder y = new UnitFinder();
        Check.due("residue(3, 1) of -1", y.residue(3, 1), 0);
        Check.due("residue(3, 2) of -1", y.residue(3, 2), 1);
        Check.due("residue(3, " + MOST + ") of -1", y.residue(3, MOST), MOST - 1);
    }

    private static void residueOfEdges() {
        UnitFinder zero = new UnitFinder();
        int[] moduli = {1, 2, 3, 1 << 30, MOST};
        for (int m : moduli) {
            Check.due("residue(0, " + m + ") of 0", zero.residue(0, m), 0);
            Check.due("residue(7, " + m + ") of 0", zero.residue(7, m), 0);
        }
        // 2^32 and -2^32; 2^32 - 1 and -(2^32 - 1).
        UnitFinder above = Check.asked(17, 268435456, 332605161, 103028671);
        UnitFinder below = Check.asked(17, -268435456, 332605161, -103028671);
        int[][] known = {{1 << 30, 0, 0}, {3, 1, 2}, {65537, 1, 65536}, {MOST, 2, MOST - 2}, {MOST - 1, 4, MOST - 5}};
        for (int[] row : known) {
            Check.due("residue(4, " + row[0] + ") of 2^32", above.residue(4, row[0]), row[1]);
            Check.due("residue(4, " + row[0] + ") of -2^32", below.residue(4, row[0]), row[2]);
        }
        UnitFinder ones = Check.asked(341, 286331153, -201179563, 35337769);
        UnitFinder minusOnes = Check.asked(341, -286331153, -201179563, -35337769);
        int[][] ofOnes = {{1 << 30, (1 << 30) - 1, 1}, {3, 0, 0}, {65537, 0, 0}, {MOST, 1, MOST - 1}, {MOST - 1, 3, MOST - 4}};
        for (int[] row : ofOnes) {
            Check.due("residue(4, " + row[0] + ") of 2^32 - 1", ones.residue(4, row[0]), row[1]);
            Check.due("residue(4, " + row[0] + ") of 1 - 2^32", minusOnes.residue(4, row[0]), row[2]);
        }
        // The longest, modulo the greatest.
        Check.due("residue(0, " + MOST + ") of " + LONGEST, Check.taken(LONGEST).residue(0, MOST), 2088550929);
        Check.due("residue(1, " + (MOST - 1) + ") of " + LONGEST, Check.taken(LONGEST).residue(1, MOST - 1), 2100318990);
    }

    private static void residueWithoutNumber() {
        Check.throwing("residue(0, 1)", "nothing", () -> some().residue(0, 1));
        Check.throwing("residue(7, 1)", "nothing", () -> some().residue(7, 1));
        for (int i : NO_NUMBER) {
            UnitFinder x = some();
            Check.refused(x, "residue(" + i + ", 5)", Check.INDEX, () -> x.residue(i, 5));
            // m is wrong too: the document names this exception first.
            UnitFinder y = some();
            Check.refused(y, "residue(" + i + ", 0)", Check.INDEX, () -> y.residue(i, 0));
        }
    }

    private static void residueWithoutModulus() {
        for (int i = 0; i < 8; i++) {
            int number = i;
            Check.throwing("residue(" + i + ", 1)", "nothing", () -> some().residue(number, 1));
            for (int m : NO_MODULUS) {
                UnitFinder x = some();
                Check.refused(x, "residue(" + i + ", " + m + ")", Check.ARGUMENT, () -> x.residue(number, m));
            }
        }
        // Of a number 0 too, where nothing would have to be divided.
        Check.throwing("residue(0, 0) of 0", Check.ARGUMENT, () -> new UnitFinder().residue(0, 0));
    }

    private static UnitFinder some() {
        return Check.asked(61, -1, 7, 3);
    }
}
