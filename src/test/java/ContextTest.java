import java.util.NoSuchElementException;

/** Promises 10, 13, 14, 15 and 16: the NAMES of the CONTEXT, and marks. */
public final class ContextTest {
    private static final String BASE = "A : type;c : A;f : A->A;";

    private ContextTest() {
    }

    public static void main(String[] args) {
        name();
        hundredNames();
        type();
        same();
        marks();
        backRemoves();
        wrongMarks();
        Due.end();
    }

    private static void name() {
        PureHouse house = Due.house(BASE + "d : A := c;sortOf := type;abcdefghij'2 := A->type;");
        int[] values = {0, 0, 0, 1, 1, 1};
        int[] sorts = {1, 0, 0, 0, PureHouse.NONE, PureHouse.NONE};
        int[] signs = {1, 1, 1, 1, 6, 12};
        for (int k = 0; k < values.length; k++) {
            Due.equal("value of " + k, house.name(k, 0), values[k]);
            Due.equal("sort of " + k, house.name(k, 1), sorts[k]);
            Due.equal("signs of " + k, house.name(k, 2), signs[k]);
        }
        Due.equal("sign", house.name(4, 3), 's');
        Due.equal("sign", house.name(4, 8), 'f');
        Due.equal("behind", house.name(4, 9), PureHouse.NONE);
        Due.equal("last sign", house.name(5, 14), '2');
        Due.equal("behind", house.name(5, 15), PureHouse.NONE);
        Due.equal("far behind", house.name(0, Integer.MAX_VALUE), PureHouse.NONE);
        Due.refused("name(6, 0)", NoSuchElementException.class, () -> house.name(6, 0));
        Due.refused("name(-1, 0)", NoSuchElementException.class, () -> house.name(-1, 0));
        Due.refused("name(0, -1)", NoSuchElementException.class, () -> house.name(0, -1));
    }

    private static void hundredNames() {
        PureHouse house = new PureHouse();
        StringBuilder text = new StringBuilder();
        for (int i = 0; i < 100; i++) {
            text.append('x').append(i).append(" : type;");
        }
        Due.equal("100 names", Due.say(house, text.toString()), 0);
        Due.equal("names", house.count(8), 100);
        Due.faulty(house, " y : type;", 5, 1, 0);
        Due.faulty(house, "y := nix;", 5, 0, 0);
        Due.faulty(house, "x99 : type;", 4, 0, 0);
        Due.equal("the last", house.name(99, 5), '9');
        Due.tells(house, "norm x99->x0;", "!_0:x99.x0\n");
    }

    private static void type() {
        PureHouse house = Due.house(BASE + "d := \\x:A.f x;");
        Due.equal("type(0)", house.type(0), 4);
        Due.equal("type of A", Due.told(house), "type");
        Due.equal("type(3)", house.type(3), 7);
        Due.equal("type of d", Due.told(house), "!_0:A.A");
        Due.worked(house, "type(3)", 3, 0, 0, 0, 0, 0, 3);
        Due.refused("type(4)", NoSuchElementException.class, () -> house.type(4));
        Due.refused("type(-1)", NoSuchElementException.class, () -> house.type(-1));
        Due.equal("OUT is as it was", Due.told(house), "!_0:A.A");
    }

    private static void same() {
        PureHouse house = Due.house(BASE + "d := f c;e : A := (\\x:A.f x) c;i := \\x:A.f x;");
        Due.equal("same(1, 1)", house.same(1, 1), 1);
        Due.worked(house, "same(1, 1)", 1, 0, 0, 0, 0, 0, 1);
        Due.equal("same(3, 4)", house.same(3, 4), 1);
        Due.worked(house, "same(3, 4)", 9, 1, 2, 0, 3, 1, 2);
        Due.equal("same(2, 5)", house.same(2, 5), 0);
        Due.equal("same(0, 1)", house.same(0, 1), 0);
        Due.refused("same(6, 0)", NoSuchElementException.class, () -> house.same(6, 0));
        Due.refused("same(0, 6)", NoSuchElementException.class, () -> house.same(0, 6));
        Due.refused("same(-1, 0)", NoSuchElementException.class, () -> house.same(-1, 0));
        Due.refused("same(0, -1)", NoSuchElementException.class, () -> house.same(0, -1));
    }

    private static void marks() {
        PureHouse house = Due.house(BASE);
        Due.equal("mark", house.mark(), 1);
        Due.equal("mark", house.mark(), 2);
        Due.equal("d", Due.say(house, "d : A;"), 0);
        Due.equal("mark", house.mark(), 3);
        Due.equal("marks", house.count(12), 3);
        Due.equal("e", Due.say(house, "e := d;"), 0);
        Due.equal("back", house.back(), 4);
        Due.equal("back", house.back(), 3);
        Due.equal("back", house.back(), 3);
        Due.equal("marks", house.count(12), 0);
        Due.equal("names", house.count(8), 3);
    }

    private static void backRemoves() {
        PureHouse house = Due.house(BASE);
        house.mark();
        Due.equal("d", Due.say(house, "d : A := f c;e := d;"), 0);
        Due.equal("back", house.back(), 3);
        Due.faulty(house, "check d;", 3, 6, 0);
        Due.refused("name(3, 0)", NoSuchElementException.class, () -> house.name(3, 0));
        Due.refused("type(3)", NoSuchElementException.class, () -> house.type(3));
        Due.tells(house, "d : type;norm d;check d;", "d\ntype\n");
        Due.equal("d has no value now", house.name(3, 0), 0);
    }

    private static void wrongMarks() {
        PureHouse house = new PureHouse();
        Due.refused("back without a mark", IllegalStateException.class, house::back);
        for (int i = 1; i <= 20; i++) {
            Due.equal("mark " + i, house.mark(), i);
        }
        Due.refused("mark 21", IllegalStateException.class, house::mark);
        Due.equal("marks", house.count(12), 20);
        Due.equal("back", house.back(), 0);
        Due.equal("mark again", house.mark(), 20);
        house.corner(7);
        Due.refused("back behind a corner", IllegalStateException.class, house::back);
    }
}
