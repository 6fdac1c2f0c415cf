import java.util.NoSuchElementException;

/** Promises 5, 11 and 12: corners, and tables of one's own. */
public final class TablesTest {
    private TablesTest() {
    }

    public static void main(String[] args) {
        corners();
        cornerEmpties();
        cornersDiffer();
        ownTables();
        sortsOfATable();
        rules();
        faultsOfTables();
        tablesBesideNames();
        typeInType();
        Due.end();
    }

    private static void corners() {
        for (int k = 0; k < 8; k++) {
            PureHouse house = new PureHouse();
            Due.equal("corner", house.corner(k), 0);
            Due.equal("sorts of " + k, house.count(9), 2);
            Due.equal("axioms of " + k, house.count(10), 1);
            Due.equal("rules of " + k, house.count(11), 1 + Integer.bitCount(k));
            Due.equal("type type of " + k, house.rule(0, 0), 0);
            Due.equal("kind type of " + k, house.rule(1, 0), (k & 1) != 0 ? 0 : PureHouse.NONE);
            Due.equal("kind kind of " + k, house.rule(1, 1), (k & 2) != 0 ? 1 : PureHouse.NONE);
            Due.equal("type kind of " + k, house.rule(0, 1), (k & 4) != 0 ? 1 : PureHouse.NONE);
        }
    }

    private static void cornerEmpties() {
        PureHouse house = Due.house("A : type;c : A;check c;");
        house.mark();
        house.feed(0, 0, 0, 0, 0);
        int life = house.count(7);
        Due.refused("corner(9)", IllegalArgumentException.class, () -> house.corner(9));
        Due.refused("corner(-1)", IllegalArgumentException.class, () -> house.corner(-1));
        Due.equal("names are as they were", house.count(8), 2);
        Due.equal("corner(8)", house.corner(8), 2);
        int[] due = {0, 0, 0, 0, 0, 20};
        for (int i = 0; i < due.length; i++) {
            Due.equal("count " + (8 + i), house.count(8 + i), due[i]);
        }
        Due.equal("life outlives a corner", house.count(7), life);
        Due.equal("OUT outlives a corner", Due.told(house), "A\n");
        Due.equal("corner(0)", house.corner(0), 0);
        Due.equal("sorts", house.count(9), 2);
    }

    private static void cornersDiffer() {
        String[] terms = {"A->A", "!a:type.a->a", "type->type", "A->type"};
        int[] needs = {0, 1, 2, 4};
        int[] arrows = {7, 6, 10, 7};
        for (int k = 0; k < 8; k++) {
            PureHouse house = new PureHouse();
            house.corner(k);
            Due.equal("A", Due.say(house, "A : type;"), 0);
            for (int i = 0; i < terms.length; i++) {
                boolean fits = (k & needs[i]) == needs[i];
                String text = "check " + terms[i] + ";";
                Due.faulty(house, text, fits ? 0 : 9, fits ? PureHouse.NONE : arrows[i], fits ? 1 : 0);
            }
        }
    }

    private static void ownTables() {
        PureHouse house = new PureHouse();
        house.corner(8);
        Due.faulty(house, "check type;", 3, 6, 0);
        Due.equal("tables", Due.say(house, "sort a;sort bee;axiom a : bee;rule a a a;rule bee a bee;"), 0);
        Due.equal("sorts", house.count(9), 2);
        Due.equal("axioms", house.count(10), 1);
        Due.equal("rules", house.count(11), 2);
        Due.equal("statements", house.fault(2), 5);
        Due.equal("a statement of a table has no work", house.count(0), 0);
        Due.tells(house, "X : a;norm X->X;check a;", "!_0:X.X\nbee\n");
        Due.tells(house, "check !y:a.y;", "bee\n");
        Due.faulty(house, "check X->a;", 9, 7, 0);
        Due.faulty(house, "check bee;", 7, 6, 0);
        Due.equal("sort of a name", house.name(0, 1), 1);
    }

    private static void sortsOfATable() {
        PureHouse house = new PureHouse();
        Due.equal("type : kind", house.sort(0, 0), 1);
        Due.equal("kind has none", house.sort(1, 0), PureHouse.NONE);
        Due.equal("signs", house.sort(1, 1), 4);
        Due.equal("first sign", house.sort(1, 2), 'k');
        Due.equal("last sign", house.sort(1, 5), 'd');
        Due.equal("behind", house.sort(1, 6), PureHouse.NONE);
        Due.equal("far behind", house.sort(1, Integer.MAX_VALUE), PureHouse.NONE);
        Due.equal("a sort of 12 signs", Due.say(house, "sort abcdefghij'2;"), 0);
        Due.equal("its signs", house.sort(2, 1), 12);
        Due.equal("its last", house.sort(2, 13), '2');
        Due.equal("behind it", house.sort(2, 14), PureHouse.NONE);
        Due.refused("sort(3, 0)", NoSuchElementException.class, () -> house.sort(3, 0));
        Due.refused("sort(-1, 0)", NoSuchElementException.class, () -> house.sort(-1, 0));
        Due.refused("sort(0, -1)", NoSuchElementException.class, () -> house.sort(0, -1));
    }

    private static void rules() {
        PureHouse house = new PureHouse();
        Due.equal("sort and rule", Due.say(house, "sort s;rule s type kind;"), 0);
        Due.equal("s type", house.rule(2, 0), 1);
        Due.equal("type s", house.rule(0, 2), PureHouse.NONE);
        Due.refused("rule(3, 0)", NoSuchElementException.class, () -> house.rule(3, 0));
        Due.refused("rule(0, 3)", NoSuchElementException.class, () -> house.rule(0, 3));
        Due.refused("rule(-1, 0)", NoSuchElementException.class, () -> house.rule(-1, 0));
        Due.refused("rule(0, -1)", NoSuchElementException.class, () -> house.rule(0, -1));
    }

    private static void faultsOfTables() {
        PureHouse house = new PureHouse();
        Due.faulty(house, "sort type;", 4, 5, 0);
        Due.faulty(house, "axiom x : y;", 3, 6, 0);
        Due.faulty(house, "axiom type : y;", 3, 13, 0);
        Due.faulty(house, "axiom type : type;", 4, 6, 0);
        Due.faulty(house, "axiom kind : type;axiom kind : kind;", 4, 24, 1);
        Due.faulty(house, "rule x y z;", 3, 5, 0);
        Due.faulty(house, "rule type y z;", 3, 10, 0);
        Due.faulty(house, "rule type type z;", 3, 15, 0);
        Due.faulty(house, "rule type type kind;", 4, 5, 0);
        Due.faulty(house, "sort a;sort b;sort c;sort d;sort e;sort f;sort g;", 5, 47, 6);
        Due.faulty(house, "sort f;", 4, 5, 0);
        Due.equal("sorts", house.count(9), 8);
    }

    private static void tablesBesideNames() {
        PureHouse house = new PureHouse();
        house.mark();
        Due.equal("A", Due.say(house, "A : type;"), 0);
        Due.faulty(house, " sort type;", 6, 1, 0);
        Due.faulty(house, "axiom x : y;", 6, 0, 0);
        Due.faulty(house, "rule x y z;", 6, 0, 0);
        house.back();
        Due.equal("without names", Due.say(house, "sort x;"), 0);
    }

    private static void typeInType() {
        PureHouse house = new PureHouse();
        house.corner(8);
        Due.equal("type in type", Due.say(house, "sort s;axiom s : s;rule s s s;"), 0);
        Due.equal("its axiom", house.sort(0, 0), 0);
        Due.tells(house, "check s;check s->s;id := \\a:s.\\x:a.x;norm id s s;", "s\ns\ns\n");
        Due.tells(house, "check id (!a:s.a->a) id;", "!_0:s.!_1:_0._0\n");
    }
}
