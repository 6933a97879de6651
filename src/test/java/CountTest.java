/** Promise 3: count. */
public final class CountTest {
    public static void main(String[] args) {
        // D, forms of the ring, whether -4 can be had, how many solutions of 4.
        int[][] known = {{-3, 0, 0, 6}, {-4, 0, 0, 4}, {-7, 0, 0, 2}, {-8, 0, 0, 2}, {-12, 0, 0, 2}, {-16, 0, 0, 2},
            {-1048576, 0, 0, 2}, {5, 2, 1, -1}, {8, 2, 1, -1}, {12, 2, 0, -1}, {13, 2, 1, -1}, {20, 2, 1, -1},
            {21, 2, 0, -1}, {61, 6, 1, -1}, {1048573, 1106, 1, -1}, {1007161, 4706, 1, -1}};
        UnitFinder x = new UnitFinder();
        for (int[] row : known) {
            if (row[0] != -4) {
                x.take(row[0]);
            } else {
                x = new UnitFinder();
            }
            for (int what = 0; what < 4; what++) {
                Check.due("count(" + what + ") of " + row[0], x.count(what), row[what]);
            }
            int[] others = {-1, 4, 5, 1000, Integer.MIN_VALUE, Integer.MAX_VALUE};
            for (int what : others) {
                Check.due("count(" + what + ")", x.count(what), -1);
            }
        }
        byReference();
        belowByTrial();
        Check.end();
    }

    private static void byReference() {
        for (int d = 5; d < 3000; d++) {
            if (!Reference.canBeTaken(d)) {
                continue;
            }
            UnitFinder x = Check.taken(d);
            Reference reference = new Reference(d);
            Check.due("count(1) of " + d, x.count(1), reference.ring.size());
            Check.due("count(2) of " + d, x.count(2), reference.minusU.signum());
        }
    }

    private static void belowByTrial() {
        for (int d = -3; d > -100; d--) {
            if (!Reference.canBeTaken(d)) {
                continue;
            }
            int found = 0;
            for (int t = -3; t <= 3; t++) {
                for (int u = -3; u <= 3; u++) {
                    found += t * t - d * u * u == 4 ? 1 : 0;
                }
            }
            Check.due("count(3) of " + d, Check.taken(d).count(3), found);
        }
    }
}
