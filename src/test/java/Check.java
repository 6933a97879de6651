/** What the tests share: it counts the answers that are not as due, and reads long numbers. */
final class Check {
    static final String ARGUMENT = "IllegalArgumentException";
    static final String INDEX = "IndexOutOfBoundsException";

    private static int wrong = 0;
    private static int checked = 0;

    private Check() {
    }

    interface Call {
        void run();
    }

    static void due(String what, Object got, Object want) {
        checked++;
        if (!got.equals(want)) {
            wrong++;
            System.out.println(what + " answered " + got + ", due is " + want);
        }
    }

    static void throwing(String what, String want, Call call) {
        String got = "nothing";
        try {
            call.run();
        } catch (RuntimeException e) {
            // The name of the very class: the machine's own exceptions are classes below it.
            got = e.getClass().getSimpleName();
        }
        due(what + " throws:", got, want);
    }

    static void end() {
        System.out.println(checked + " checks, " + wrong + " wrong");
        if (wrong != 0 || checked == 0) {
            System.exit(1);
        }
    }

    static UnitFinder taken(int d) {
        UnitFinder x = new UnitFinder();
        if (d != -4) {
            x.take(d);
        }
        return x;
    }

    /** Number i, read by sign, bits and word. */
    static java.math.BigInteger number(UnitFinder x, int i) {
        int words = (x.bits(i) + 31) / 32;
        java.math.BigInteger size = java.math.BigInteger.ZERO;
        for (int k = words - 1; k >= 0; k--) {
            size = size.shiftLeft(32).or(java.math.BigInteger.valueOf(x.word(i, k) & 0xFFFFFFFFL));
        }
        return size.multiply(java.math.BigInteger.valueOf(x.sign(i)));
    }

    /** The first words of all eight numbers with their signs, and the counts: enough to see a change. */
    static String state(UnitFinder x) {
        StringBuilder text = new StringBuilder();
        for (int what = 0; what < 4; what++) {
            text.append(x.count(what)).append(' ');
        }
        for (int i = 0; i < 8; i++) {
            text.append(x.sign(i)).append(':').append(x.bits(i)).append(':').append(x.word(i, 0)).append(' ');
        }
        return text.toString();
    }
}
