import java.util.NoSuchElementException;

/** Promise 9, and the FAULTS 12, 13 and 14: what is counted, and where it ends. */
public final class WorkTest {
    private static final String BASE = "A : type;c : A;f : A->A;g : A->A->A;P : A->type;h : !x:A.P x;";
    private static final String TEN = "t := \\x:A." + Due.times("f (", 9) + "f x" + Due.times(")", 9) + ";";
    private static final String POWER =
        "n : type := !a:type.(a->a)->a->a;"
        + "two : n := \\a:type.\\s:a->a.\\z:a.s (s z);"
        + "ten : n := \\a:type.\\s:a->a.\\z:a.s(s(s(s(s(s(s(s(s(s z)))))))));"
        + "pow : n->n->n := \\x:n.\\y:n.\\a:type.y (a->a) (x a);"
        + "thousand := pow two ten;";

    private WorkTest() {
    }

    public static void main(String[] args) {
        steps();
        looks();
        judgedLets();
        normalFormsCost();
        limit();
        limitWhileTelling();
        limitOfTypeAndSame();
        deep();
        deepProducts();
        deepParts();
        life();
        counts();
        Due.end();
    }

    private static void steps() {
        PureHouse house = Due.house(BASE + "d := c;e := d;");
        Due.tells(house, "norm c;", "c\n");
        Due.worked(house, "c", 1, 0, 0, 0, 0, 0, 1);
        Due.tells(house, "norm e;", "c\n");
        Due.worked(house, "e", 3, 0, 2, 0, 0, 0, 1);
        Due.tells(house, "norm let x := c in x;", "c\n");
        Due.worked(house, "let", 3, 0, 0, 1, 0, 1, 1);
        Due.tells(house, "norm let x := c in let y := x in y;", "c\n");
        Due.worked(house, "let let", 5, 0, 0, 2, 0, 2, 1);
        Due.tells(house, "norm (\\x:A.x) c;", "c\n");
        Due.worked(house, "one use", 7, 1, 0, 0, 1, 1, 4);
        Due.tells(house, "norm (\\x:A.(\\y:A.y) x) c;", "c\n");
        Due.worked(house, "x put for y", 13, 2, 0, 0, 2, 2, 7);
        Due.tells(house, "head g c (f c);", "g 2\n");
        Due.worked(house, "head", 10, 0, 0, 0, 2, 0, 8);
        Due.tells(house, "head (g c) (f c);", "g 2\n");
        Due.equal("P of a bracketed USE", house.count(4), 2);
    }

    private static void looks() {
        PureHouse house = Due.house("A : type;");
        Due.worked(house, "A", 1, 0, 0, 0, 0, 0, 1);
        Due.equal("f", Due.say(house, "f : A->A;"), 0);
        Due.worked(house, "f", 4, 0, 0, 0, 0, 0, 4);
        Due.tells(house, "check f;", "!_0:A.A\n");
        Due.worked(house, "check f", 3, 0, 0, 0, 0, 0, 3);
        Due.tells(house, "check f : A->A;", "yes\n");
        Due.worked(house, "check f : A->A", 7, 0, 0, 0, 0, 0, 7);
        Due.tells(house, "same f = A;", "no\n");
        Due.worked(house, "same f = A", 1, 0, 0, 0, 0, 0, 1);
        Due.tells(house, "same \\x:A.x = \\x:A->A.x;", "no\n");
        Due.worked(house, "over at the first", 1 + 4 + 2, 0, 0, 0, 0, 0, 7);
        Due.faulty(house, "check f f;", 11, 8, 0);
        Due.worked(house, "of a fault too", 1, 0, 0, 0, 0, 0, 1);
    }

    private static void judgedLets() {
        PureHouse house = Due.house(BASE);
        Due.tells(house, "check let t := A in \\x:t.x;", "!_0:A.A\n");
        Due.worked(house, "a let that is judged", 5, 0, 0, 0, 0, 1, 4);
        Due.tells(house, "check let x := c in h x;", "P c\n");
        Due.worked(house, "N for x in a TYPE", 9, 0, 0, 0, 2, 2, 5);
    }

    private static void normalFormsCost() {
        PureHouse house = Due.house(BASE + "q : P c;");
        Due.equal("type(6)", house.type(6), 3);
        Due.worked(house, "type(6)", 3, 0, 0, 0, 1, 0, 2);
        Due.tells(house, "check q;", "P c\n");
        Due.worked(house, "check q", 3, 0, 0, 0, 1, 0, 2);
        Due.tells(house, "same q = q;", "yes\n");
        Due.worked(house, "same q = q", 1, 0, 0, 0, 0, 0, 1);
        Due.equal("r", Due.say(house, "r : P c := q;"), 0);
        Due.worked(house, "r : P c := q", 2 + 3 + 4, 0, 0, 0, 1 + 2, 0, 2 + 2 + 2);
    }

    private static void limit() {
        for (int limit = 1; limit <= 7; limit++) {
            PureHouse house = Due.house(BASE);
            house.limit(limit);
            int life = house.count(7);
            String text = " norm (\\x:A.x) c;";
            Due.faulty(house, text, limit < 7 ? 12 : 0, limit < 7 ? 1 : PureHouse.NONE, limit < 7 ? 0 : 1);
            Due.equal("work under " + limit, house.count(0), limit);
            Due.equal("life under " + limit, house.count(7), life + limit);
            Due.worked(house, "under " + limit, limit, limit > 5 ? 1 : 0, 0, 0, limit > 4 ? 1 : 0,
                limit > 6 ? 1 : 0, Math.min(limit, 4));
        }
    }

    private static void limitWhileTelling() {
        String[] kept = {"", "", "f ", "f ", "f (f ", "f (f c)\n"};
        for (int i = 0; i < kept.length; i++) {
            PureHouse house = Due.house(BASE);
            house.limit(4 + i);
            Due.equal("limit " + (4 + i), Due.say(house, "norm f (f c);"), i < 5 ? 12 : 0);
            Due.equal("kept of limit " + (4 + i), Due.told(house), kept[i]);
        }
        PureHouse house = Due.house(BASE);
        house.limit(4);
        Due.faulty(house, "z : A := f (f c);z : A;", 12, 0, 0);
        Due.equal("z is not there", house.count(8), 6);
        house.limit(5);
        Due.faulty(house, "check c;x : A := f (f c);y : A;", 12, 8, 1);
        Due.equal("OUT of what was done", Due.told(house), "A\n");
    }

    private static void limitOfTypeAndSame() {
        PureHouse house = Due.house(BASE + "q : P (f c);d := f c;e := f (f c);");
        house.limit(2);
        Due.equal("type", house.type(6), -12);
        Due.equal("type keeps", Due.told(house), "P ");
        Due.worked(house, "type", 2, 0, 0, 0, 1, 0, 1);
        Due.equal("same", house.same(7, 8), -12);
        Due.worked(house, "same", 2, 0, 1, 0, 0, 0, 1);
        Due.equal("same leaves OUT", Due.told(house), "P ");
        house.limit(100);
        Due.equal("same(7, 8)", house.same(7, 8), 0);
        Due.worked(house, "same", 7, 0, 2, 0, 3, 0, 2);
    }

    private static void deep() {
        PureHouse house = Due.house(BASE + TEN);
        String open = Due.times("t (", 9);
        String close = Due.times(")", 9);
        String nines = "u := \\x:A." + Due.times("f (", 8) + "f x" + Due.times(")", 8) + ";";
        Due.equal("u", Due.say(house, nines), 0);
        String ninetyNine = Due.times("f (", 98) + "f c" + Due.times(")", 98) + "\n";
        Due.tells(house, "norm " + open + "u c" + close + ";", ninetyNine);
        Due.equal("looks of 99 and c", house.count(6), 20 + 100);
        int life = house.count(7);
        Due.faulty(house, "check c; norm " + open + "t c" + close + ";", 13, 9, 1);
        Due.equal("OUT ahead of it", Due.told(house), "A\n" + Due.times("f (", 99) + "f ");
        Due.equal("the deep look is counted", house.count(6), 20 + 101);
        Due.equal("life", house.count(7), life + 1 + house.count(0));
        int work = house.count(0);
        house.limit(work);
        Due.faulty(house, "norm " + open + "t c" + close + ";", 13, 0, 0);
        Due.equal("the whole limit", house.count(0), work);
        house.limit(work - 1);
        Due.faulty(house, "norm " + open + "t c" + close + ";", 13, 0, 0);
        Due.equal("13 ahead of 12, within the limit", house.count(0), work - 1);
        house.limit(work - 2);
        Due.faulty(house, "norm " + open + "t c" + close + ";", 12, 0, 0);
        house.limit(5000);
        Due.faulty(house, "same " + open + "t c" + close + " = " + open + "t c" + close + ";", 13, 0, 0);
        Due.equal("d", Due.say(house, "d := " + open + "t c" + close + ";"), 0);
        Due.equal("same", house.same(8, 8), -13);
        Due.faulty(house, "check h (" + open + "t c" + close + ");", 13, 0, 0);
        Due.equal("no fault of other numbers", Due.say(house, "e := " + open + "u c" + close + ";"), 0);
        Due.equal("e and d", house.same(8, 9), 0);
    }

    /** Of n products in one another the last first TERM and second TERM stand within n LOOKS. */
    private static void deepProducts() {
        PureHouse house = Due.house("A : type;"
            + "R := \\a:type." + Due.times("A->", 10) + "a;S := \\a:type." + Due.times("A->", 9) + "a;"
            + "L := \\a:type." + Due.times("(", 9) + "a" + Due.times("->A)", 9) + "->A;"
            + "M := \\a:type." + Due.times("(", 8) + "a" + Due.times("->A)", 8) + "->A;");
        StringBuilder right = new StringBuilder();
        for (int k = 0; k < 99; k++) {
            right.append("!_").append(k).append(":A.");
        }
        Due.tells(house, "norm " + nest("R", "S") + ";", right + "A\n");
        Due.faulty(house, "norm " + nest("R", "R") + ";", 13, 0, 0);
        Due.equal("OUT of 100 to the right", Due.told(house), right + "!_99:");
        Due.tells(house, "norm " + nest("L", "M") + ";",
            Due.times("!_0:(", 98) + "!_0:A.A" + Due.times(").A", 98) + "\n");
        Due.faulty(house, "norm " + nest("L", "L") + ";", 13, 0, 0);
        Due.equal("OUT of 100 to the left", Due.told(house), Due.times("!_0:(", 99) + "!_0:");
        for (String kind : new String[] {"RS", "LM"}) {
            String fits = nest(kind.substring(0, 1), kind.substring(1));
            String deep = nest(kind.substring(0, 1), kind.substring(0, 1));
            Due.tells(house, "same " + fits + " = " + fits + ";", "yes\n");
            Due.faulty(house, "same " + deep + " = " + deep + ";", 13, 0, 0);
            Due.equal("deep in comparing", house.count(6), 40 + (kind.equals("RS") ? 200 : 101));
            Due.equal("x" + kind, Due.say(house, "x" + kind + " : " + fits + ";"), 0);
            Due.faulty(house, "y : " + deep + ";", 13, 0, 0);
            Due.equal("deep in normalizing", house.count(6), 20 + (kind.equals("RS") ? 200 : 101));
        }
    }

    /** P and n uses of f around c: c stands within n + 1 LOOKS. */
    private static void deepParts() {
        String eight = "v := \\x:A." + Due.times("f (", 7) + "f x" + Due.times(")", 7) + ";";
        String nine = "w := \\x:A." + Due.times("f (", 8) + "f x" + Due.times(")", 8) + ";";
        PureHouse house = Due.house(BASE + TEN + eight + nine);
        String open = " : P (" + Due.times("t (", 9);
        String close = Due.times(")", 10) + ";";
        Due.equal("98 uses", Due.say(house, "x" + open + "v c" + close), 0);
        Due.faulty(house, "y" + open + "w c" + close, 13, 0, 0);
    }

    private static String nest(String tens, String last) {
        return Due.times(tens + " (", 9) + last + " A" + Due.times(")", 9);
    }

    private static void life() {
        PureHouse house = Due.house("A : type;c : A;" + POWER);
        house.limit(20000);
        int life = house.count(7);
        String text = "head pow thousand two A (\\x:A.x) c;";
        Due.faulty(house, text, 12, 0, 0);
        Due.equal("life", house.count(7), life + 20000);
        Due.faulty(house, text, 12, 0, 0);
        house.limit(20000 - life);
        Due.faulty(house, text, 12, 0, 0);
        Due.equal("12 ahead of 14: life", house.count(7), 60000);
        Due.faulty(house, "  check c;", 14, 2, 0);
        Due.worked(house, "14", 0, 0, 0, 0, 0, 0, 0);
        Due.equal("type", house.type(0), -14);
        Due.equal("same", house.same(0, 0), -14);
        Due.equal("outs", house.outs(), 0);
        Due.equal("life", house.count(7), 60000);
        house.corner(7);
        Due.faulty(house, "sort s;A : type;", 14, 7, 1);
    }

    private static void counts() {
        PureHouse house = Due.house(BASE);
        Due.say(house, "norm (\\x:A.x) c;");
        Due.refused("type(6)", NoSuchElementException.class, () -> house.type(6));
        Due.refused("same(0, 6)", NoSuchElementException.class, () -> house.same(0, 6));
        Due.equal("counts are as they were", house.count(0), 7);
        house.mark();
        house.feed(0, 0, 0, 0, 0);
        int[] due = {6, 2, 1, 4, 1, 20};
        for (int i = 0; i < due.length; i++) {
            Due.equal("count " + (8 + i), house.count(8 + i), due[i]);
        }
        Due.refused("count(14)", NoSuchElementException.class, () -> house.count(14));
        Due.refused("count(-1)", NoSuchElementException.class, () -> house.count(-1));
        house.text(0);
        Due.equal("a text without statements", house.count(0), 7);
        Due.say(house, "check c;sort s;norm c;");
        Due.equal("sort was begun", house.count(0), 0);
    }
}
