/** Promises 10 and 13 to 16: the NAMES of the CONTEXT, their types, and marks. */
public final class ContextTest {
    private static final String BASE = "A : type;c : A;f : A->A;";

    private ContextTest() {
    }

    public static void main(String[] args) {
        nameBounds();
        nameSigns();
        nameRefuses();
        lastOfAHundred();
        type();
        typeReplacesOut();
        typeRefuses();
        same();
        sameLeavesOut();
        sameRefuses();
        marks();
        upToTwentyMarks();
        markRefuses();
        back();
        backRemoves();
        backRefuses();
        Due.end();
    }

    /** "0 whether it has a VALUE (1), 1 the number of its TYPE's SORT (NONE without), 2 how many signs" */
    private static void nameBounds() {
        House house = Due.house(BASE + "d : A := c;sortOf := type;abcdefghij'2 := A->type;");
        int[] values = {0, 0, 0, 1, 1, 1};
        int[] sorts = {1, 0, 0, 0, Due.NONE, Due.NONE};
        int[] signs = {1, 1, 1, 1, 6, 12};
        for (int k = 0; k < values.length; k++) {
            Due.equal("value of " + k, house.name(k, 0), values[k]);
            Due.equal("sort of " + k, house.name(k, 1), sorts[k]);
            Due.equal("signs of " + k, house.name(k, 2), signs[k]);
        }
    }

    /** "3 and more: sign what - 3 (NONE behind its end)" */
    private static void nameSigns() {
        String[] names = {"A", "sortOf", "abcdefghij'2", "z"};
        House house = Due.house("A : type;sortOf : type;abcdefghij'2 : type;z : type;");
        for (int k = 0; k < names.length; k++) {
            int length = names[k].length();
            for (int i = 0; i < length; i++) {
                Due.equal("sign " + i + " of " + k, house.name(k, 3 + i), names[k].charAt(i));
            }
            Due.equal("behind " + k, house.name(k, 3 + length), Due.NONE);
            Due.equal("one more behind " + k, house.name(k, 4 + length), Due.NONE);
            Due.equal("far behind " + k, house.name(k, Due.HIGHEST), Due.NONE);
        }
    }

    /** "NoSuchElementException: there is no such NAME; what is below 0." */
    private static void nameRefuses() {
        House house = Due.house(BASE);
        Due.equal("the last", house.name(2, 3), 'f');
        for (int k : new int[] {3, -1, 100, Due.LOWEST, Due.HIGHEST}) {
            Due.noSuch(house, "name(" + k + ", 0)", () -> house.name(k, 0));
        }
        Due.noSuch(house, "name(3, 3)", () -> house.name(3, 3));
        Due.noSuch(house, "name(0, -1)", () -> house.name(0, -1));
        Due.noSuch(house, "name(0, LOWEST)", () -> house.name(0, Due.LOWEST));
    }

    private static void lastOfAHundred() {
        StringBuilder text = new StringBuilder();
        for (int i = 0; i < 99; i++) {
            text.append('x').append(i).append(" : type;");
        }
        House house = Due.house(text + "abcdefghijkl : type;");
        Due.equal("names", house.count(8), 100);
        Due.equal("signs of the last", house.name(99, 2), 12);
        Due.equal("its last sign", house.name(99, 14), 'l');
        Due.tells(house, "norm abcdefghijkl;", "abcdefghijkl\n");
        Due.faulty(house, "abcdefghijkl : type;", 4, 0, 0);
        Due.equal("type of the last", house.type(99), 4);
        Due.equal("the last and itself", house.same(99, 99), 1);
        Due.equal("the last and the first", house.same(99, 0), 0);
        Due.noSuch(house, "name(100, 0)", () -> house.name(100, 0));
        Due.noSuch(house, "type(100)", () -> house.type(100));
        Due.noSuch(house, "same(99, 100)", () -> house.same(99, 100));
        Due.equal("mark", house.mark(), 1);
        Due.equal("back", house.back(), 100);
    }

    /** "OUT becomes the TYPE of NAME k, TOLD: how many bytes" */
    private static void type() {
        House house = Due.house(BASE + "d := \\x:A.f x;e := type;");
        String[] types = {"type", "A", "!_0:A.A", "!_0:A.A", "kind"};
        int[] looks = {1, 1, 3, 3, 1};
        for (int k = 0; k < types.length; k++) {
            int life = house.count(7);
            Due.equal("type(" + k + ")", house.type(k), types[k].length());
            Due.holds(house, "type(" + k + ")", types[k]);
            Due.spent(house, "type(" + k + ")", 0, 0, 0, 0, 0, looks[k]);
            Due.equal("life", house.count(7), life + looks[k]);
        }
    }

    private static void typeReplacesOut() {
        House house = Due.house(BASE);
        Due.tells(house, "check f;check f;", "!_0:A.A\n!_0:A.A\n");
        Due.equal("type(1)", house.type(1), 1);
        Due.holds(house, "type(1)", "A");
        Due.noSuch(house, "out(1)", () -> house.out(1));
        Due.equal("type(0)", house.type(0), 4);
        Due.holds(house, "type(0)", "type");
        Due.equal("the text's statements", house.fault(2), 2);
        Due.tells(house, "check c;", "A\n");
    }

    /** "NoSuchElementException: there is no such NAME." */
    private static void typeRefuses() {
        House house = Due.house(BASE);
        Due.equal("type(2)", house.type(2), 7);
        for (int k : new int[] {3, -1, Due.LOWEST, Due.HIGHEST}) {
            Due.noSuch(house, "type(" + k + ")", () -> house.type(k));
        }
        Due.holds(house, "OUT is as it was", "!_0:A.A");
        House empty = new House();
        Due.noSuch(empty, "type(0)", () -> empty.type(0));
    }

    /** "NAMES j and k COMPARED: 1, 0" */
    private static void same() {
        House house = Due.house(BASE + "d := f c;e : A := (\\x:A.f x) c;i := \\x:A.f x;");
        Due.equal("same(1, 1)", house.same(1, 1), 1);
        Due.spent(house, "same(1, 1)", 0, 0, 0, 0, 0, 1);
        Due.equal("same(3, 4)", house.same(3, 4), 1);
        Due.spent(house, "same(3, 4)", 1, 2, 0, 3, 1, 2);
        Due.equal("same(4, 3)", house.same(4, 3), 1);
        Due.equal("same(4, 4)", house.same(4, 4), 1);
        Due.spent(house, "same(4, 4)", 2, 2, 0, 4, 2, 2);
        Due.equal("same(2, 5)", house.same(2, 5), 0);
        Due.spent(house, "same(2, 5)", 0, 1, 0, 0, 0, 1);
        Due.equal("same(0, 1)", house.same(0, 1), 0);
        Due.equal("same(1, 0)", house.same(1, 0), 0);
    }

    private static void sameLeavesOut() {
        House house = Due.house(BASE);
        Due.faulty(house, "check c;check nix;", 3, 14, 1);
        int life = house.count(7);
        Due.equal("same(0, 1)", house.same(0, 1), 0);
        Due.equal("life", house.count(7), life + 1);
        Due.holds(house, "OUT", "A\n");
        Due.equal("fault", house.fault(1), 14);
    }

    /** "NoSuchElementException: one is none." */
    private static void sameRefuses() {
        House house = Due.house(BASE);
        for (int k : new int[] {3, -1, Due.LOWEST, Due.HIGHEST}) {
            Due.noSuch(house, "same(" + k + ", 0)", () -> house.same(k, 0));
            Due.noSuch(house, "same(0, " + k + ")", () -> house.same(0, k));
        }
        Due.noSuch(house, "same(3, 3)", () -> house.same(3, 3));
        House empty = new House();
        Due.noSuch(empty, "same(0, 0)", () -> empty.same(0, 0));
    }

    /** "How many NAMES there are is marked, behind the marks there are: how many marks." */
    private static void marks() {
        House house = Due.house(BASE);
        Due.equal("mark", house.mark(), 1);
        Due.equal("mark", house.mark(), 2);
        Due.equal("d", Due.say(house, "d : A;"), 0);
        Due.equal("mark", house.mark(), 3);
        Due.equal("marks", house.count(12), 3);
        Due.equal("e", Due.say(house, "e := d;"), 0);
        Due.equal("back", house.back(), 4);
        Due.equal("back", house.back(), 3);
        Due.equal("names", house.count(8), 3);
        Due.equal("back", house.back(), 3);
        Due.equal("marks", house.count(12), 0);
    }

    /** "IllegalStateException: there are 20": 19, 20 and 21 of them. */
    private static void upToTwentyMarks() {
        House house = new House();
        for (int i = 1; i <= 20; i++) {
            Due.equal("mark " + i, house.mark(), i);
        }
        Due.refused(house, "mark 21", IllegalStateException.class, house::mark);
        Due.refused(house, "mark 21 again", IllegalStateException.class, house::mark);
        Due.equal("marks", house.count(12), 20);
        Due.equal("back", house.back(), 0);
        Due.equal("mark again", house.mark(), 20);
        Due.refused(house, "mark 21", IllegalStateException.class, house::mark);
    }

    /** A mark that is refused does not stand for any other. */
    private static void markRefuses() {
        House house = new House();
        for (int i = 1; i <= 20; i++) {
            house.mark();
        }
        Due.equal("A", Due.say(house, "A : type;"), 0);
        Due.refused(house, "mark 21", IllegalStateException.class, house::mark);
        Due.equal("back", house.back(), 0);
        Due.equal("names", house.count(8), 0);
        house.corner(7);
        Due.equal("marks are empty", house.mark(), 1);
    }

    /** "The CONTEXT has just the NAMES that it had at the latest mark, which goes: how many." */
    private static void back() {
        House house = new House();
        house.mark();
        Due.equal("two", Due.say(house, "A : type;c : A;"), 0);
        house.mark();
        Due.equal("one more", Due.say(house, "d : A;"), 0);
        Due.equal("back", house.back(), 2);
        Due.equal("marks", house.count(12), 1);
        Due.equal("names", house.count(8), 2);
        Due.tells(house, "check c;", "A\n");
        Due.equal("back", house.back(), 0);
        Due.equal("marks", house.count(12), 0);
        Due.equal("names", house.count(8), 0);
        Due.faulty(house, "check A;", 3, 6, 0);
    }

    private static void backRemoves() {
        House house = Due.house(BASE);
        house.mark();
        Due.equal("d", Due.say(house, "d : A := f c;e := d;check e;"), 0);
        int life = house.count(7);
        Due.equal("back", house.back(), 3);
        Due.equal("life stays", house.count(7), life);
        Due.holds(house, "OUT stays", "A\n");
        Due.faulty(house, "check d;", 3, 6, 0);
        Due.noSuch(house, "name(3, 0)", () -> house.name(3, 0));
        Due.noSuch(house, "type(3)", () -> house.type(3));
        Due.noSuch(house, "same(3, 3)", () -> house.same(3, 3));
        Due.tells(house, "d : type;norm d;check d;", "d\ntype\n");
        Due.equal("d has no VALUE now", house.name(3, 0), 0);
        Due.equal("its SORT", house.name(3, 1), 1);
    }

    /** "IllegalStateException: there is none." */
    private static void backRefuses() {
        House house = new House();
        Due.refused(house, "back without a mark", IllegalStateException.class, house::back);
        Due.equal("A", Due.say(house, "A : type;"), 0);
        Due.refused(house, "back without a mark", IllegalStateException.class, house::back);
        Due.equal("mark", house.mark(), 1);
        Due.equal("back", house.back(), 1);
        Due.refused(house, "back again", IllegalStateException.class, house::back);
        house.mark();
        house.corner(7);
        Due.refused(house, "back behind a corner", IllegalStateException.class, house::back);
    }
}
