/** The boundary cases that promise 4 names: one method for each sentence or part of one. */
public final class SentencesOfAskTest {
    private static final int MOST = 1073741824;

    public static void main(String[] args) {
        Check.sentence("Promise 4", "A form is ASKED.", SentencesOfAskTest::isAsked);
        Check.sentence("Promise 4", "IllegalArgumentException: it isn't one of discriminant D,",
                SentencesOfAskTest::notOfDiscriminant);
        Check.sentence("Promise 4", "IllegalArgumentException: it isn't one of discriminant D,",
                SentencesOfAskTest::discriminantWrapsAround);
        Check.sentence("Promise 4", "or isn't primitive,", SentencesOfAskTest::notPrimitive);
        Check.sentence("Promise 4", "or a coefficient isn't from -1073741824 to 1073741824",
                SentencesOfAskTest::coefficientsAtTheEdge);
        Check.sentence("Promise 4", "or a coefficient isn't from -1073741824 to 1073741824",
                SentencesOfAskTest::coefficientsPastTheEdge);
        Check.sentence("Promise 4", "(nothing changes).", SentencesOfAskTest::nothingChanges);
        Check.end();
    }

    private static void isAsked() {
        UnitFinder x = Check.taken(5);
        x.ask(-1, 3, -1);
        Check.numbers("(-1, 3, -1)", x, 2, 0, 1, -1, 3);
        x.ask(1, 3, 1);
        Check.numbers("(1, 3, 1)", x, 2, 0, -1, 1, 3);
        // Both kinds of sign that a form of D below 0 can have.
        UnitFinder y = Check.taken(-3);
        y.ask(-1, 1, -1);
        Check.numbers("(-1, 1, -1)", y, 2, 0, 1, -1, 1);
        y.ask(1, -1, 1);
        Check.numbers("(1, -1, 1)", y, 2, 1, -1, 1, 0);
        // Nothing but the automorph is another one.
        Check.numbers("D = 5 after asking", x, 0, 3, 1);
        Check.numbers("D = 5 after asking", x, 6, 1, 1);
        Check.due("count(0) after asking", x.count(0), 5);
    }

    private static void notOfDiscriminant() {
        // Those of -D, of a neighbour, of 4 D, of a square, and of 0.
        int[][] forms = {{1, 0, -1}, {1, 1, 1}, {1, 1, -2}, {1, 1, 0}, {1, 3, 2}, {1, 2, -4}, {0, 1, 0}, {1, 0, 0}, {0, 0, 0}, {1, -1, 1}};
        for (int[] f : forms) {
            refused(5, f);
        }
        refused(-4, new int[] {1, 0, -1});
        refused(-4, new int[] {1, 1, 1});
        refused(-3, new int[] {1, 0, 1});
        refused(1048573, new int[] {1, 1, -262142});
        refused(-1048576, new int[] {1, 0, 262143});
    }

    private static void discriminantWrapsAround() {
        // 5 - 2^32 and 5 + 2^32: in an int both would be 5.
        int[][] wrap = {{1, 1, 1073741823}, {-1, 1, -1073741823}, {1073741823, -1, 1}, {1, 65537, 32767}, {-32767, -65537, -1}};
        for (int[] f : wrap) {
            refused(5, f);
        }
        // -4 + 2^32 and -4 - 2^32.
        refused(-4, new int[] {1, 65536, 1});
        refused(-4, new int[] {5, 0, 214748365});
        // 18532 + 2^64: in a long this would be 18532.
        refused(18532, new int[] {Integer.MIN_VALUE, 92682, Integer.MAX_VALUE});
        refused(18532, new int[] {Integer.MAX_VALUE, -92682, Integer.MIN_VALUE});
    }

    private static void notPrimitive() {
        refused(20, new int[] {2, 2, -2});
        refused(20, new int[] {-2, 6, -2});
        refused(-12, new int[] {2, 2, 2});
        refused(-16, new int[] {2, 0, 2});
        refused(48, new int[] {2, 0, -6});
        refused(45, new int[] {3, 3, -3});
        refused(-1033707, new int[] {587, 587, 587});
        refused(-1033707, new int[] {-587, 587, -587});
        refused(-1048576, new int[] {512, 0, 512});
        refused(-1048576, new int[] {2, 65536, 537001984});
    }

    private static void coefficientsAtTheEdge() {
        int[][] edges = {{1, 65534, MOST}, {1, -65538, MOST}, {MOST, 65537, 1}, {-1, 65534, -MOST}, {-MOST, -65538, -1},
            {268443649, MOST, 1073709053}, {-268443650, -MOST, -1073709049}, {1073709057, -MOST, 268443648},
            {MOST, 869476073, 176017322}, {-MOST, 869476073, -176017322}, {176017322, 869476073, MOST}};
        for (int[] f : edges) {
            UnitFinder x = Check.taken(discriminant(f));
            Check.throwing(name(f), "nothing", () -> x.ask(f[0], f[1], f[2]));
        }
    }

    /** Primitive forms of discriminant D: nothing but a coefficient's size is against them. */
    private static void coefficientsPastTheEdge() {
        int past = MOST + 1;
        // The last ones are as far past it as can be: the size of the least int is no int.
        int least = Integer.MIN_VALUE;
        int greatest = Integer.MAX_VALUE;
        int[][] forms = {{1, 65536, past}, {past, -65536, 1}, {-1, 65540, -past}, {-past, 65540, -1},
            {268443649, past, 1073709055}, {-268443650, -past, -1073709051},
            {least, 869476073, -88008661}, {-88008661, -869476073, least}, {greatest, 131072, 2}, {2, -131072, greatest},
            {-greatest, 131072, -2}, {1073676288, 2147418111, MOST}, {-MOST, -2147418111, -1073676288}};
        for (int[] f : forms) {
            refused(discriminant(f), f);
        }
        int[][] others = {{least, 1, 0}, {0, least, 0}, {1, 1, least}, {least, least, least}, {1, greatest, 1}, {greatest, 1, 1}};
        for (int[] f : others) {
            refused(5, f);
            refused(-4, f);
        }
    }

    private static void nothingChanges() {
        // One form of each kind that is refused, before and after one is asked.
        int[][] forms = {{1, 1, -5}, {1, 2, 1}, {2, 4, -2}, {1, 65538, 1073807353}};
        for (int[] f : forms) {
            UnitFinder x = Check.taken(32);
            Check.numbers("the form before any is asked", x, 2, 3, 8, 1, 3);
            Check.throwing(name(f), Check.ARGUMENT, () -> x.ask(f[0], f[1], f[2]));
            Check.numbers("the form before any is asked", x, 2, 3, 8, 1, 3);
            x.ask(-1, 6, -1);
            Check.numbers("(-1, 6, -1)", x, 2, 0, 1, -1, 6);
            Check.throwing(name(f), Check.ARGUMENT, () -> x.ask(f[0], f[1], f[2]));
            Check.numbers("(-1, 6, -1)", x, 0, 6, 1, 0, 1, -1, 6, 0, 0);
            Check.due("count(0)", x.count(0), 32);
        }
    }

    /** Asked after another form, which has to stay the one asked latest. */
    private static void refused(int d, int[] f) {
        UnitFinder x = Check.taken(d);
        int b = Math.floorMod(d, 4);
        x.ask((b - d) / 4, -b, 1);
        Check.refused(x, name(f) + " of " + d, Check.ARGUMENT, () -> x.ask(f[0], f[1], f[2]));
    }

    private static String name(int[] f) {
        return "ask(" + f[0] + ", " + f[1] + ", " + f[2] + ")";
    }

    private static int discriminant(int[] f) {
        return Math.toIntExact((long) f[1] * f[1] - 4L * f[0] * f[2]);
    }
}
