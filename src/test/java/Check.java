import java.math.BigInteger;

/** What the tests share: it counts the answers that are not as due, and reads long numbers. */
final class Check {
    static final String ARGUMENT = "IllegalArgumentException";
    static final String INDEX = "IndexOutOfBoundsException";

    private static int wrong = 0;
    private static int checked = 0;
    private static String sentence = "";

    private Check() {
    }

    interface Call {
        void run();
    }

    /** Runs the test that holds the class against these words of the document, and names them if it fails. */
    static void sentence(String where, String words, Call test) {
        int before = checked;
        sentence = where + ", \"" + words + "\": ";
        throwing("the whole test", "nothing", test);
        if (checked == before + 1) {
            wrong++;
            System.out.println(sentence + "nothing was checked");
        }
        sentence = "";
    }

    static void due(String what, Object got, Object want) {
        checked++;
        if (!got.equals(want)) {
            wrong++;
            System.out.println(sentence + what + " answered " + got + ", due is " + want);
        }
    }

    static void throwing(String what, String want, Call call) {
        String got = "nothing";
        try {
            call.run();
        } catch (RuntimeException e) {
            // The name of the very class: the machine's own exceptions are classes below it.
            got = e.getClass().getSimpleName();
        }
        due(what + " throws:", got, want);
    }

    /** The call throws, and all that can be asked of the object answers as before. */
    static void refused(UnitFinder x, String what, String want, Call call) {
        String before = state(x);
        throwing(what, want, call);
        due("the state after " + what, state(x), before);
    }

    static void end() {
        System.out.println(checked + " checks, " + wrong + " wrong");
        if (wrong != 0 || checked == 0) {
            System.exit(1);
        }
    }

    static UnitFinder taken(int d) {
        UnitFinder x = new UnitFinder();
        if (d != -4) {
            x.take(d);
        }
        return x;
    }

    static UnitFinder asked(int d, int a, int b, int c) {
        UnitFinder x = taken(d);
        x.ask(a, b, c);
        return x;
    }

    /** Number i, read by sign, bits and word. */
    static BigInteger number(UnitFinder x, int i) {
        int words = (x.bits(i) + 31) / 32;
        BigInteger size = BigInteger.ZERO;
        for (int k = words - 1; k >= 0; k--) {
            size = size.shiftLeft(32).or(BigInteger.valueOf(x.word(i, k) & 0xFFFFFFFFL));
        }
        return size.multiply(BigInteger.valueOf(x.sign(i)));
    }

    /** Some numbers that stand one behind the other, the first of them number i. */
    static void numbers(String what, UnitFinder x, int i, long... want) {
        for (int k = 0; k < want.length; k++) {
            due("number " + (i + k) + " of " + what, number(x, i + k), BigInteger.valueOf(want[k]));
        }
    }

    /** The counts, and of all eight numbers what tells them apart: the residue hangs on every word. */
    static String state(UnitFinder x) {
        StringBuilder text = new StringBuilder();
        for (int what = 0; what < 4; what++) {
            text.append(x.count(what)).append(' ');
        }
        for (int i = 0; i < 8; i++) {
            text.append(x.sign(i)).append(':').append(x.bits(i)).append(':').append(x.word(i, 0)).append(':')
                    .append(x.residue(i, Integer.MAX_VALUE)).append(' ');
        }
        return text.toString();
    }
}
