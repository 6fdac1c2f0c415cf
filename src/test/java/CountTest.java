/** Promise 9: whose WORK is counted, and what there is. */
public final class CountTest {
    private static final String BASE = "A : type;c : A;f : A->A;";

    private CountTest() {
    }

    public static void main(String[] args) {
        eachKind();
        latestStatement();
        statementsWithFaults();
        typeAndSame();
        notOfRefusedCalls();
        life();
        whatThereIs();
        refuses();
        Due.end();
    }

    /** "0 WORK, 1 STEPS B, 2 D, 3 Z, 4 P, 5 V, 6 LOOKS": a different number of each. */
    private static void eachKind() {
        House house = Due.house(BASE + "d := c;e := d;");
        String text = "norm f (f (f (f ((\\x:A.let y := x in let z := y in let w := z in w) e))));";
        Due.tells(house, text, "f (f (f (f c)))\n");
        Due.worked(house, "each kind", 31, 1, 2, 3, 5, 4, 16);
    }

    /** "Of the latest STATEMENT that was begun" */
    private static void latestStatement() {
        House house = Due.house(BASE);
        Due.tells(house, "norm f c;norm c;", "f c\nc\n");
        Due.spent(house, "norm c", 0, 0, 0, 0, 0, 1);
        Due.tells(house, "norm f c;x := c;", "f c\n");
        Due.spent(house, "x := c", 0, 0, 0, 0, 0, 0);
        Due.tells(house, "norm f c;", "f c\n");
        Due.spent(house, "norm f c", 0, 0, 0, 1, 0, 4);
        Due.tells(house, "", "");
        Due.spent(house, "a text without STATEMENTS", 0, 0, 0, 1, 0, 4);
        Due.faulty(house, "norm c;norm", 1, 11, 0);
        Due.spent(house, "a text of which none was begun", 0, 0, 0, 1, 0, 4);
    }

    private static void statementsWithFaults() {
        House house = Due.house(BASE);
        Due.faulty(house, "norm c;norm f f;norm c;", 11, 14, 1);
        Due.spent(house, "of 11", 0, 0, 0, 0, 0, 1);
        Due.faulty(house, "norm f c;sort s;norm f c;", 6, 9, 1);
        Due.spent(house, "of 6", 0, 0, 0, 0, 0, 0);
        Due.faulty(house, "norm f c;c : A;", 4, 9, 1);
        Due.spent(house, "of 4", 0, 0, 0, 0, 0, 0);
        Due.faulty(house, "norm f (f c) nix;", 10, 5, 0);
        Due.spent(house, "of 10", 0, 0, 0, 0, 0, 4);
        House tables = new House();
        Due.faulty(tables, "check type;sort type;", 4, 16, 1);
        Due.spent(tables, "of sort", 0, 0, 0, 0, 0, 0);
        Due.faulty(tables, "check type;axiom kind : type;", 0, Due.NONE, 2);
        Due.spent(tables, "of axiom", 0, 0, 0, 0, 0, 0);
    }

    /** "or type(), same()" */
    private static void typeAndSame() {
        House house = Due.house(BASE + "d := f c;");
        Due.tells(house, "norm f c;", "f c\n");
        Due.equal("type(2)", house.type(2), 7);
        Due.spent(house, "type(2)", 0, 0, 0, 0, 0, 3);
        Due.equal("same(3, 3)", house.same(3, 3), 1);
        Due.spent(house, "same(3, 3)", 0, 2, 0, 2, 0, 2);
    }

    private static void notOfRefusedCalls() {
        House house = Due.house(BASE);
        Due.tells(house, "norm f c;", "f c\n");
        Due.noSuch(house, "type(3)", () -> house.type(3));
        Due.noSuch(house, "same(0, 3)", () -> house.same(0, 3));
        Due.refused(house, "text(1)", IllegalArgumentException.class, () -> house.text(1));
        Due.refused(house, "corner(9)", IllegalArgumentException.class, () -> house.corner(9));
        Due.spent(house, "norm f c", 0, 0, 0, 1, 0, 4);
        house.corner(7);
        house.mark();
        house.limit(9);
        house.feed(0, 0, 0, 0, 0);
        Due.spent(house, "norm f c", 0, 0, 0, 1, 0, 4);
    }

    /** "7 the WORK of the house's life" */
    private static void life() {
        House house = new House();
        int life = 0;
        String[] texts = {"A : type;", "c : A;", "f : A->A;", "norm f c;", "check f f;", "check nix;", "d := f c;"};
        int[] works = {1, 1, 4, 5, 1, 0, 2};
        for (int i = 0; i < texts.length; i++) {
            Due.say(house, texts[i]);
            life += works[i];
            Due.equal("WORK of " + texts[i], house.count(0), works[i]);
            Due.equal("life behind " + texts[i], house.count(7), life);
        }
        house.type(2);
        Due.equal("life behind type()", house.count(7), life + 3);
        house.same(3, 3);
        Due.equal("life behind same()", house.count(7), life + 3 + 6);
        Due.say(house, "norm c;norm c;norm f c;");
        Due.equal("life behind three", house.count(7), life + 3 + 6 + 7);
    }

    /** "there are: 8 NAMES, 9 SORTS, 10 AXIOMS, 11 RULES, 12 marks, 13 bytes of the tape" */
    private static void whatThereIs() {
        House house = new House();
        house.corner(4);
        Due.equal("tables", Due.say(house, "sort s;sort t;sort u;axiom kind : s;axiom s : t;rule s s s;"), 0);
        Due.equal("names", Due.say(house, "a : type;b : type;d : type;e : type;x : type;y : type;"), 0);
        house.mark();
        house.mark();
        house.feed(0, 0, 0, 0, 0);
        house.feed(0, 0, 0, 0, 0);
        int[] due = {6, 5, 3, 3, 2, 40};
        for (int i = 0; i < due.length; i++) {
            Due.equal("count " + (8 + i), house.count(8 + i), due[i]);
        }
    }

    /** "NoSuchElementException: another what." */
    private static void refuses() {
        House house = Due.house(BASE);
        for (int what : new int[] {-1, 14, Due.LOWEST, Due.HIGHEST}) {
            Due.noSuch(house, "count(" + what + ")", () -> house.count(what));
        }
    }
}
