/** Units: the least solution of t t - D u u = 4, its powers, and the automorphs that it makes of forms. */
public final class UnitFinder {
    private static final int MOST_D = 1048576;
    private static final int MOST_COEFFICIENT = 1073741824;
    private static final int WORDS = 512;
    private static final long MASK = 0xFFFFFFFFL;
    /** Far above the length of any ring: the longest, of D = 1007161, has 4706 forms. */
    private static final int MOST_FORMS = 1000000;
    /** Below this two products with a word and a carry add up without leaving a long. */
    private static final long MOST_FACTOR = 1L << 30;

    private final Big t;
    private final Big u;
    private final Big p;
    private final Big q;
    private final Big r;
    private final Big s;
    private final Big minusT;
    private final Big minusU;
    private final Recurrence recurrence;
    private int discriminant;
    private int ringLength;

    public UnitFinder() {
        t = new Big();
        u = new Big();
        p = new Big();
        q = new Big();
        r = new Big();
        s = new Big();
        minusT = new Big();
        minusU = new Big();
        recurrence = new Recurrence();
        become(-4);
    }

    public int take(int d) throws IllegalArgumentException {
        if (!canBeTaken(d)) {
            throw new IllegalArgumentException("D can't be taken");
        }
        become(d);
        return t.countBits();
    }

    public int count(int what) {
        switch (what) {
            case 0:
                return discriminant;
            case 1:
                return ringLength;
            case 2:
                return minusU.signum() == 0 ? 0 : 1;
            case 3:
                return countUnits();
            default:
                return -1;
        }
    }

    public void ask(int a, int b, int c) throws IllegalArgumentException {
        // The sizes come first: within them b b - 4 a c can't leave a long.
        if (!isCoefficient(a) || !isCoefficient(b) || !isCoefficient(c)) {
            throw new IllegalArgumentException("a coefficient is too large");
        }
        if ((long) b * b - 4L * a * c != discriminant) {
            throw new IllegalArgumentException("not a form of discriminant D");
        }
        if (commonDivisor(commonDivisor(a, b), c) != 1) {
            throw new IllegalArgumentException("not a primitive form");
        }
        makeAutomorph(a, b, c);
    }

    public int power(int n, int m, int which) throws IllegalArgumentException {
        if (n < 0 || m < 1 || which < 0 || which > 1) {
            throw new IllegalArgumentException("no such power");
        }
        long trace = t.modulo(m);
        // low and high are U(k) and U(k + 1) modulo m, where U(0) = 0, U(1) = 1,
        // U(k + 1) = t U(k) - U(k - 1) and k is what the bits of n read so far make.
        // Then u(k) = u U(k) and t(k) = 2 U(k + 1) - t U(k).
        long low = 0;
        long high = 1 % m;
        for (int bit = 30; bit >= 0; bit--) {
            long even = low * Math.floorMod(2 * high - trace * low, (long) m) % m;
            long odd = Math.floorMod(high * high - low * low, (long) m);
            if ((n >>> bit & 1) == 0) {
                low = even;
                high = odd;
            } else {
                low = odd;
                high = Math.floorMod(trace * odd - even, (long) m);
            }
        }
        long answer = which == 0
                ? Math.floorMod(2 * high - trace * low, (long) m)
                : u.modulo(m) * low % m;
        return (int) answer;
    }

    public int sign(int i) throws IndexOutOfBoundsException {
        return numberAt(i).signum();
    }

    public int bits(int i) throws IndexOutOfBoundsException {
        return numberAt(i).countBits();
    }

    public int word(int i, int k) throws IndexOutOfBoundsException {
        Big number = numberAt(i);
        if (k < 0 || k >= WORDS) {
            throw new IndexOutOfBoundsException("no such word");
        }
        return number.wordAt(k);
    }

    public int residue(int i, int m) throws IndexOutOfBoundsException, IllegalArgumentException {
        Big number = numberAt(i);
        if (m < 1) {
            throw new IllegalArgumentException("m is below 1");
        }
        return (int) number.modulo(m);
    }

    private Big numberAt(int i) {
        switch (i) {
            case 0:
                return t;
            case 1:
                return u;
            case 2:
                return p;
            case 3:
                return q;
            case 4:
                return r;
            case 5:
                return s;
            case 6:
                return minusT;
            case 7:
                return minusU;
            default:
                throw new IndexOutOfBoundsException("no such number");
        }
    }

    private static boolean canBeTaken(int d) {
        if (d < -MOST_D || d > MOST_D || (d & 3) > 1) {
            return false;
        }
        int root = rootOf(d);
        return root * root != d;
    }

    /** The greatest number whose square isn't above d; 0 for d below 0. */
    private static int rootOf(int d) {
        int root = 0;
        for (int bit = 1024; bit > 0; bit >>= 1) {
            int more = root + bit;
            if (more * more <= d) {
                root = more;
            }
        }
        return root;
    }

    private int countUnits() {
        if (discriminant > 0) {
            return -1;
        }
        if (discriminant == -3) {
            return 6;
        }
        return discriminant == -4 ? 4 : 2;
    }

    private static boolean isCoefficient(int x) {
        return x >= -MOST_COEFFICIENT && x <= MOST_COEFFICIENT;
    }

    private static int commonDivisor(int x, int y) {
        int great = Math.abs(x);
        int small = Math.abs(y);
        // Two steps halve the greater one at least, so 64 are enough for 31 bits.
        for (int step = 0; small != 0 && step < 64; step++) {
            int rest = great % small;
            great = small;
            small = rest;
        }
        return great;
    }

    private void become(int d) {
        discriminant = d;
        if (d > 0) {
            findUnitAbove(d);
        } else {
            setUnitBelow(d);
        }
        int b = d & 1;
        makeAutomorph(1, b, (b - d) / 4);
    }

    private void setUnitBelow(int d) {
        ringLength = 0;
        minusT.set(0);
        minusU.set(0);
        u.set(d >= -4 ? 1 : 0);
        if (d == -3) {
            t.set(1);
        } else {
            t.set(d == -4 ? 0 : 2);
        }
    }

    private void findUnitAbove(int d) {
        int period = walkToOne(d);
        Big foundT = recurrence.before;
        Big foundU = recurrence.last;
        // The signs of a take turns along the ring: after an odd number of steps
        // a is -1, the ring is only half gone through, and the solution is one of -4.
        if ((period & 1) == 1) {
            ringLength = 2 * period;
            minusT.copy(foundT);
            minusU.copy(foundU);
            t.setProduct(foundT, foundT);
            t.addSmall(2);
            u.setProduct(foundT, foundU);
        } else {
            ringLength = period;
            minusT.set(0);
            minusU.set(0);
            t.copy(foundT);
            u.copy(foundU);
        }
    }

    /**
     * Goes from the ring's first form to the next one whose a is 1 or -1; answers after how many
     * steps, and leaves the least solution of 4 or of -4 in the recurrence: u last, t before it.
     *
     * All forms of the ring are reduced, so that |c| is always below R, and a and c have different
     * signs: c stands here for |c|, and the quotient (b + e) / 2 |c| is the next partial quotient
     * of the continued fraction of (b + R) / 2 |c|. The numerators h of these quotients give
     * the solution when |c| comes to 1: u is the last one, t is u times the first b and twice the
     * one before.
     */
    private int walkToOne(int d) {
        int root = rootOf(d);
        int first = root - ((root - d) & 1);
        int b = first;
        int c = (d - b * b) / 4;
        int steps = 1;
        recurrence.start();
        while (c > 1 && steps < MOST_FORMS) {
            int quotient = (b + root) / (2 * c);
            recurrence.step(quotient);
            b = 2 * c * quotient - b;
            c = (d - b * b) / (4 * c);
            steps++;
        }
        recurrence.finish(first);
        return steps;
    }

    private void makeAutomorph(int a, int b, int c) {
        q.setTimes(u, -c);
        r.setTimes(u, a);
        // t and u aren't below 0: sizes are added for one of the two, taken away for the other.
        Big plus = b < 0 ? p : s;
        Big minus = b < 0 ? s : p;
        plus.setTimes(u, Math.abs(b));
        minus.setDifference(t, plus);
        plus.setSum(t, plus);
        minus.halve();
        plus.halve();
    }

    /**
     * The recurrence h(n) = quotient h(n - 1) + h(n - 2), for two long numbers not below 0. Steps
     * are gathered in four factors as long as these stay small, because going through the long
     * numbers is what costs.
     */
    private static final class Recurrence {
        private final Big last;
        private final Big before;
        private long lastOfLast;
        private long beforeOfLast;
        private long lastOfBefore;
        private long beforeOfBefore;

        Recurrence() {
            last = new Big();
            before = new Big();
        }

        void start() {
            last.set(1);
            before.set(0);
            gatherNothing();
        }

        void step(int quotient) {
            if (quotient * lastOfLast + lastOfBefore >= MOST_FACTOR
                    || quotient * beforeOfLast + beforeOfBefore >= MOST_FACTOR) {
                settle();
            }
            long newLast = quotient * lastOfLast + lastOfBefore;
            long newBefore = quotient * beforeOfLast + beforeOfBefore;
            lastOfBefore = lastOfLast;
            beforeOfBefore = beforeOfLast;
            lastOfLast = newLast;
            beforeOfLast = newBefore;
        }

        /** Lets last stand, and makes factor last + 2 before of before. */
        void finish(int factor) {
            settle();
            lastOfBefore = factor;
            beforeOfBefore = 2;
            settle();
        }

        private void gatherNothing() {
            lastOfLast = 1;
            beforeOfLast = 0;
            lastOfBefore = 0;
            beforeOfBefore = 1;
        }

        private void settle() {
            int length = Math.max(last.length, before.length);
            long lastCarry = 0;
            long beforeCarry = 0;
            for (int i = 0; i < length; i++) {
                long x = last.wordAt(i) & MASK;
                long y = before.wordAt(i) & MASK;
                lastCarry += lastOfLast * x + beforeOfLast * y;
                beforeCarry += lastOfBefore * x + beforeOfBefore * y;
                last.words[i] = (int) lastCarry;
                before.words[i] = (int) beforeCarry;
                lastCarry >>>= 32;
                beforeCarry >>>= 32;
            }
            last.close(length, lastCarry);
            before.close(length, beforeCarry);
            gatherNothing();
        }
    }

    /**
     * A long number: its size in words of 32 bits, the lowest first. The row is made once, and
     * what stands in it from length on is left from earlier numbers. No t has more than 7825 bits
     * (D = 1007161), and a coefficient adds 31 at most: 512 words are more than enough.
     */
    private static final class Big {
        private final int[] words;
        private int length;
        private boolean below;

        Big() {
            words = new int[WORDS];
        }

        /** The value isn't below 0. */
        void set(int value) {
            below = false;
            close(0, value);
        }

        void copy(Big x) {
            below = x.below;
            length = x.length;
            System.arraycopy(x.words, 0, words, 0, x.length);
        }

        int signum() {
            if (length == 0) {
                return 0;
            }
            return below ? -1 : 1;
        }

        int countBits() {
            if (length == 0) {
                return 0;
            }
            return 32 * length - Integer.numberOfLeadingZeros(words[length - 1]);
        }

        /** k isn't below 0. */
        int wordAt(int k) {
            return k < length ? words[k] : 0;
        }

        /** m is above 0. */
        long modulo(int m) {
            long rest = 0;
            for (int i = length - 1; i >= 0; i--) {
                rest = (rest << 32 | words[i] & MASK) % m;
            }
            return below && rest > 0 ? m - rest : rest;
        }

        /** Ends a number of which some words stand already: the carry goes on top of them. */
        void close(int used, long carry) {
            length = used;
            if (carry != 0 && length < WORDS) {
                words[length] = (int) carry;
                length++;
            }
            while (length > 0 && words[length - 1] == 0) {
                length--;
            }
        }

        void setTimes(Big x, int factor) {
            long size = Math.abs((long) factor);
            long carry = 0;
            for (int i = 0; i < x.length; i++) {
                carry += (x.words[i] & MASK) * size;
                words[i] = (int) carry;
                carry >>>= 32;
            }
            below = x.below != factor < 0;
            close(x.length, carry);
        }

        /** Neither x nor y is this number. */
        void setProduct(Big x, Big y) {
            int most = Math.min(x.length + y.length, WORDS);
            for (int i = 0; i < most; i++) {
                words[i] = 0;
            }
            for (int i = 0; i < x.length; i++) {
                addRow(x.words[i] & MASK, y, i);
            }
            below = x.below != y.below;
            close(most, 0);
        }

        private void addRow(long factor, Big y, int from) {
            long carry = 0;
            int end = Math.min(from + y.length, WORDS);
            for (int i = from; i < end; i++) {
                carry += factor * (y.words[i - from] & MASK) + (words[i] & MASK);
                words[i] = (int) carry;
                carry >>>= 32;
            }
            if (end < WORDS) {
                words[end] = (int) carry;
            }
        }

        /** Neither the number nor what is added is below 0. */
        void addSmall(int value) {
            long carry = value;
            for (int i = 0; i < length && carry != 0; i++) {
                carry += words[i] & MASK;
                words[i] = (int) carry;
                carry >>>= 32;
            }
            close(length, carry);
        }

        /** Neither x nor y is below 0; either may be this number. */
        void setSum(Big x, Big y) {
            int most = Math.max(x.length, y.length);
            long carry = 0;
            for (int i = 0; i < most; i++) {
                carry += (x.wordAt(i) & MASK) + (y.wordAt(i) & MASK);
                words[i] = (int) carry;
                carry >>>= 32;
            }
            below = false;
            close(most, carry);
        }

        /** Neither x nor y is below 0; neither is this number. */
        void setDifference(Big x, Big y) {
            boolean turned = x.isLess(y);
            Big great = turned ? y : x;
            Big small = turned ? x : y;
            long borrow = 0;
            for (int i = 0; i < great.length; i++) {
                borrow += (great.words[i] & MASK) - (small.wordAt(i) & MASK);
                words[i] = (int) borrow;
                borrow >>= 32;
            }
            below = turned;
            close(great.length, 0);
        }

        private boolean isLess(Big y) {
            if (length != y.length) {
                return length < y.length;
            }
            for (int i = length - 1; i >= 0; i--) {
                if (words[i] != y.words[i]) {
                    return (words[i] & MASK) < (y.words[i] & MASK);
                }
            }
            return false;
        }

        /** The number is even. */
        void halve() {
            for (int i = 0; i < length; i++) {
                words[i] = words[i] >>> 1 | wordAt(i + 1) << 31;
            }
            close(length, 0);
        }
    }
}
