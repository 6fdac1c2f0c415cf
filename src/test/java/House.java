/** A house that tells when a test calls it more often than the document promises answers for. */
final class House {
    private static final int CALLS_MOST = 512;

    private final PureHouse house = new PureHouse();
    private int calls = 0;

    private void called() {
        calls++;
        if (calls == CALLS_MOST + 1) {
            Due.fail("the test itself: a house is called more than " + CALLS_MOST + " times");
        }
    }

    int feed(int a, int b, int c, int d, int e) {
        called();
        return house.feed(a, b, c, d, e);
    }

    int text(int n) {
        called();
        return house.text(n);
    }

    int fault(int what) {
        called();
        return house.fault(what);
    }

    int corner(int k) {
        called();
        return house.corner(k);
    }

    int limit(int n) {
        called();
        return house.limit(n);
    }

    int outs() {
        called();
        return house.outs();
    }

    int out(int k) {
        called();
        return house.out(k);
    }

    int count(int what) {
        called();
        return house.count(what);
    }

    int name(int k, int what) {
        called();
        return house.name(k, what);
    }

    int sort(int k, int what) {
        called();
        return house.sort(k, what);
    }

    int rule(int a, int b) {
        called();
        return house.rule(a, b);
    }

    int type(int k) {
        called();
        return house.type(k);
    }

    int same(int j, int k) {
        called();
        return house.same(j, k);
    }

    int mark() {
        called();
        return house.mark();
    }

    int back() {
        called();
        return house.back();
    }
}
