import java.math.BigInteger;

/** Promise 4: ask, and the automorph that it makes. */
public final class AskTest {
    private static final int MOST = 1073741824;

    public static void main(String[] args) {
        beforeAsking();
        smallForms();
        greatForms();
        pastTheEdge();
        latestCounts();
        refused();
        Check.end();
    }

    private static void beforeAsking() {
        int[] some = {-3, -4, -7, -8, -1048576, -1048575, 5, 8, 12, 13, 61, 244, 1048573, 1048572, 1007161};
        for (int d : some) {
            int b = Math.floorMod(d, 4);
            automorph(Check.taken(d), d, new int[] {1, b, (b - d) / 4});
        }
    }

    private static void smallForms() {
        for (int a = -4; a <= 4; a++) {
            for (int b = -9; b <= 9; b++) {
                for (int c = -4; c <= 4; c++) {
                    smallForm(a, b, c);
                }
            }
        }
    }

    private static void smallForm(int a, int b, int c) {
        int d = b * b - 4 * a * c;
        if (!Reference.canBeTaken(d)) {
            return;
        }
        boolean primitive = true;
        for (int g = 2; g <= 9; g++) {
            primitive &= a % g != 0 || b % g != 0 || c % g != 0;
        }
        UnitFinder x = Check.taken(d);
        String name = "ask(" + a + ", " + b + ", " + c + ")";
        Check.throwing(name, primitive ? "nothing" : Check.ARGUMENT, () -> x.ask(a, b, c));
        if (primitive) {
            automorph(x, d, new int[] {a, b, c});
        }
    }

    private static void greatForms() {
        // (1, b, c) moved by x: (1, b + 2 x, c + b x + x x), and turned.
        int[] some = {-3, -4, -7, -1048575, 5, 61, 1048573, 1007161, 1048572};
        for (int d : some) {
            long b = 2L * 32760 + Math.floorMod(d, 4);
            int c = (int) ((b * b - d) / 4);
            int[][] forms = {{1, (int) b, c}, {c, (int) -b, 1}, {-1, (int) b, -c}, {-c, (int) -b, -1}};
            for (int[] form : forms) {
                UnitFinder x = Check.taken(d);
                x.ask(form[0], form[1], form[2]);
                automorph(x, d, form);
            }
        }
        // A coefficient at the very edge, each of a, b, c, below 0 and above.
        int[][] edges = {{1, 65534, MOST}, {1, -65538, MOST}, {MOST, 65537, 1}, {-1, 65534, -MOST}, {-MOST, -65538, -1},
            {268443649, MOST, 1073709053}, {-268443650, -MOST, -1073709049}, {1073709057, -MOST, 268443648}};
        for (int[] f : edges) {
            int d = (int) ((long) f[1] * f[1] - 4L * f[0] * f[2]);
            UnitFinder x = Check.taken(d);
            x.ask(f[0], f[1], f[2]);
            automorph(x, d, f);
        }
    }

    /** Primitive forms of discriminant D that have nothing against them but a coefficient's size. */
    private static void pastTheEdge() {
        int[][] forms = {{1, 65536, MOST + 1}, {MOST + 1, -65536, 1}, {-1, 65540, -MOST - 1}, {-MOST - 1, 65540, -1},
            {268443649, MOST + 1, 1073709055}, {-268443650, -MOST - 1, -1073709051}};
        for (int[] f : forms) {
            UnitFinder x = Check.taken((int) ((long) f[1] * f[1] - 4L * f[0] * f[2]));
            String before = Check.state(x);
            Check.throwing("ask past the edge", Check.ARGUMENT, () -> x.ask(f[0], f[1], f[2]));
            Check.due("the state after", Check.state(x), before);
        }
    }

    private static void latestCounts() {
        UnitFinder x = Check.taken(5);
        x.ask(1, 1, -1);
        x.ask(-1, 3, -1);
        automorph(x, 5, new int[] {-1, 3, -1});
        x.ask(1, -1, -1);
        automorph(x, 5, new int[] {1, -1, -1});
        Check.due("t stays", Check.number(x, 0), BigInteger.valueOf(3));
        Check.due("minus t stays", Check.number(x, 6), BigInteger.ONE);
    }

    private static void refused() {
        UnitFinder x = Check.taken(5);
        x.ask(-1, 3, -1);
        String before = Check.state(x);
        int low = Integer.MIN_VALUE;
        int high = Integer.MAX_VALUE;
        int[][] forms = {{1, 0, -1}, {2, 2, -2}, {0, 0, 0}, {1, 1, 1}, {1, 1, -2}, {low, low, low}, {high, high, high},
            {low, 0, 0}, {0, low, 0}, {0, 0, low}, {1, low, 0}, {MOST + 1, 1, 0}, {1, MOST + 1, 0}, {1, 1, -MOST - 1},
            {low, 1, 1}, {1, high, 1}};
        for (int[] f : forms) {
            String name = "ask(" + f[0] + ", " + f[1] + ", " + f[2] + ")";
            Check.throwing(name, Check.ARGUMENT, () -> x.ask(f[0], f[1], f[2]));
        }
        Check.due("the state after refused forms", Check.state(x), before);
    }

    private static void automorph(UnitFinder x, int d, int[] form) {
        String name = "(" + form[0] + ", " + form[1] + ", " + form[2] + ") of " + d;
        BigInteger[] due = new Reference(d).numbers(form[0], form[1], form[2]);
        // Each number on its own: an object answers 512 calls alone.
        for (int i = 0; i < 8; i++) {
            UnitFinder y = x;
            if (x.bits(i) > 1000) {
                y = Check.taken(d);
                y.ask(form[0], form[1], form[2]);
            }
            Check.due("number " + i + " for " + name, Check.number(y, i), due[i]);
        }
    }
}
