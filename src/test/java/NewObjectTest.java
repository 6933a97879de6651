/** Promise 1: a new object. */
public final class NewObjectTest {
    public static void main(String[] args) {
        UnitFinder x = new UnitFinder();
        Check.due("count(0)", x.count(0), -4);
        Check.due("count(1)", x.count(1), 0);
        Check.due("count(2)", x.count(2), 0);
        Check.due("count(3)", x.count(3), 4);
        // The unit (0, 1), the automorph of (1, 0, 1), and no solution of -4.
        int[] numbers = {0, 1, 0, -1, 1, 0, 0, 0};
        for (int i = 0; i < 8; i++) {
            Check.due("number " + i, Check.number(x, i).intValueExact(), numbers[i]);
        }
        int[] traces = {2, 0, 8, 0, 2};
        for (int n = 0; n < 5; n++) {
            Check.due("power(" + n + ", 10, 0)", x.power(n, 10, 0), traces[n]);
        }
        x.ask(1, 0, 1);
        x.ask(5, 4, 1);
        Check.due("p of (5, 4, 1)", Check.number(x, 2).intValueExact(), -2);
        // Objects share nothing.
        UnitFinder y = new UnitFinder();
        y.take(5);
        Check.due("count(0) of the other", x.count(0), -4);
        Check.due("p of the other", Check.number(x, 2).intValueExact(), -2);
        Check.due("a third's state", Check.state(new UnitFinder()), Check.state(new UnitFinder()));
        Check.end();
    }
}
