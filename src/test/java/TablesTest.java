/** Promises 5, 11 and 12: corners, tables of one's own, and the STATEMENTS that make them. */
public final class TablesTest {
    private static final String EIGHT = "sort a;sort b;sort d;sort e;sort m;sort n;sort o;sort p;";

    private TablesTest() {
    }

    public static void main(String[] args) {
        corners();
        cornersDiffer();
        cornerEmpties();
        cornerRefuses();
        cornerReplacesTables();
        sortBounds();
        sortRefuses();
        ruleBounds();
        ruleRefuses();
        upToEightSorts();
        eightFromACorner();
        sortFaults();
        axioms();
        axiomFaults();
        rules();
        ruleFaults();
        besideNames();
        besideNamesAheadOfOthers();
        withoutNamesAgain();
        typeInType();
        Due.end();
    }

    /** "SORTS type, kind; type : kind; RULES type type type; kind type type (if bit 0 of it is 1), ..." */
    private static void corners() {
        for (int k = 0; k <= 7; k++) {
            House house = new House();
            Due.equal("corner", house.corner(k), 0);
            Due.equal("sorts of " + k, house.count(9), 2);
            Due.equal("axioms of " + k, house.count(10), 1);
            Due.equal("rules of " + k, house.count(11), 1 + Integer.bitCount(k));
            Due.equal("type type of " + k, house.rule(0, 0), 0);
            Due.equal("kind type of " + k, house.rule(1, 0), (k & 1) != 0 ? 0 : Due.NONE);
            Due.equal("kind kind of " + k, house.rule(1, 1), (k & 2) != 0 ? 1 : Due.NONE);
            Due.equal("type kind of " + k, house.rule(0, 1), (k & 4) != 0 ? 1 : Due.NONE);
            Due.equal("type : kind", house.sort(0, 0), 1);
            Due.equal("kind has none", house.sort(1, 0), Due.NONE);
        }
    }

    private static void cornersDiffer() {
        String[] terms = {"A->A", "!a:type.a->a", "type->type", "A->type"};
        int[] needs = {0, 1, 2, 4};
        int[] signs = {7, 6, 10, 7};
        for (int k = 0; k <= 7; k++) {
            House house = new House();
            house.corner(k);
            Due.equal("A", Due.say(house, "A : type;"), 0);
            for (int i = 0; i < terms.length; i++) {
                boolean fits = (k & needs[i]) == needs[i];
                String text = "check " + terms[i] + ";";
                Due.faulty(house, text, fits ? 0 : 9, fits ? Due.NONE : signs[i], fits ? 1 : 0);
            }
        }
    }

    /** "8: no SORTS. The CONTEXT and marks are empty: how many NAMES there were." */
    private static void cornerEmpties() {
        House house = Due.house("A : type;c : A;check c;");
        house.mark();
        house.feed(0, 0, 0, 0, 0);
        int life = house.count(7);
        Due.equal("corner(8)", house.corner(8), 2);
        int[] due = {0, 0, 0, 0, 0, 20};
        for (int i = 0; i < due.length; i++) {
            Due.equal("count " + (8 + i), house.count(8 + i), due[i]);
        }
        Due.equal("life stays", house.count(7), life);
        Due.equal("the latest WORK stays", house.count(6), 1);
        Due.equal("the fault stays", house.fault(2), 3);
        Due.holds(house, "OUT stays", "A\n");
        Due.noSuch(house, "sort(0, 0)", () -> house.sort(0, 0));
        Due.noSuch(house, "name(0, 0)", () -> house.name(0, 0));
        Due.refused(house, "back()", IllegalStateException.class, house::back);
        Due.equal("corner(0)", house.corner(0), 0);
        Due.equal("the tape of before", house.text(0), 0);
        Due.faulty(house, "check c;", 3, 6, 0);
    }

    /** "IllegalArgumentException: another number." */
    private static void cornerRefuses() {
        House house = Due.house("A : type;c : A;check c;");
        house.mark();
        for (int k : new int[] {9, -1, 16, Due.LOWEST, Due.HIGHEST}) {
            Due.refused(house, "corner(" + k + ")", IllegalArgumentException.class, () -> house.corner(k));
        }
        Due.tells(house, "check A->type;", "kind\n");
        Due.equal("the mark is there", house.back(), 2);
    }

    private static void cornerReplacesTables() {
        House house = new House();
        house.corner(8);
        Due.equal("eight", Due.say(house, EIGHT + "axiom a : a;rule a a a;rule b b a;axiom b : a;"), 0);
        Due.equal("corner(1)", house.corner(1), 0);
        int[] due = {2, 1, 2};
        for (int i = 0; i < due.length; i++) {
            Due.equal("count " + (9 + i), house.count(9 + i), due[i]);
        }
        Due.equal("no axiom of kind", house.sort(1, 0), Due.NONE);
        Due.equal("no rule kind kind", house.rule(1, 1), Due.NONE);
        Due.equal("sort", Due.say(house, "sort a;"), 0);
        Due.equal("no axiom of what comes third", house.sort(2, 0), Due.NONE);
        Due.equal("nor a rule", house.rule(2, 2), Due.NONE);
    }

    /** "0 its AXIOM's SORT (NONE without), 1 how many signs, 2 and more: sign what - 2 (NONE behind)" */
    private static void sortBounds() {
        House house = new House();
        Due.equal("sorts", Due.say(house, "sort s;sort abcdefghij'2;axiom s : type;"), 0);
        int[] axioms = {1, Due.NONE, 0, Due.NONE};
        int[] signs = {4, 4, 1, 12};
        for (int k = 0; k < axioms.length; k++) {
            Due.equal("axiom of " + k, house.sort(k, 0), axioms[k]);
            Due.equal("signs of " + k, house.sort(k, 1), signs[k]);
            Due.equal("behind " + k, house.sort(k, 2 + signs[k]), Due.NONE);
            Due.equal("far behind " + k, house.sort(k, Due.HIGHEST), Due.NONE);
        }
        String all = "typekind";
        for (int i = 0; i < all.length(); i++) {
            Due.equal("sign " + i, house.sort(i / 4, 2 + i % 4), all.charAt(i));
        }
        Due.equal("the one sign of s", house.sort(2, 2), 's');
        Due.equal("the first of 12", house.sort(3, 2), 'a');
        Due.equal("the last of 12", house.sort(3, 13), '2');
    }

    /** "NoSuchElementException likewise": no such SORT; what is below 0. */
    private static void sortRefuses() {
        House house = new House();
        for (int k : new int[] {2, -1, 8, Due.LOWEST, Due.HIGHEST}) {
            Due.noSuch(house, "sort(" + k + ", 0)", () -> house.sort(k, 0));
        }
        Due.noSuch(house, "sort(1, -1)", () -> house.sort(1, -1));
        Due.noSuch(house, "sort(0, LOWEST)", () -> house.sort(0, Due.LOWEST));
    }

    /** "c of the RULE a b; NONE without one" */
    private static void ruleBounds() {
        House house = new House();
        Due.equal("sort and rule", Due.say(house, "sort s;rule s type kind;rule kind s s;"), 0);
        int[] due = {0, 1, Due.NONE, 0, 1, 2, 1, Due.NONE, Due.NONE};
        for (int i = 0; i < due.length; i++) {
            Due.equal("rule " + i, house.rule(i / 3, i % 3), due[i]);
        }
    }

    /** "NoSuchElementException: one is no SORT." */
    private static void ruleRefuses() {
        House house = new House();
        for (int k : new int[] {2, -1, Due.LOWEST, Due.HIGHEST}) {
            Due.noSuch(house, "rule(" + k + ", 0)", () -> house.rule(k, 0));
            Due.noSuch(house, "rule(0, " + k + ")", () -> house.rule(0, k));
        }
        Due.noSuch(house, "rule(8, -8)", () -> house.rule(8, -8));
        House empty = new House();
        empty.corner(8);
        Due.noSuch(empty, "rule(0, 0)", () -> empty.rule(0, 0));
    }

    /** "SORTS ..., at most 8", "5 if there are 8": 7, 8 and 9 of them. */
    private static void upToEightSorts() {
        House house = new House();
        house.corner(8);
        Due.equal("seven", Due.say(house, EIGHT.substring(0, 49)), 0);
        Due.equal("sorts", house.count(9), 7);
        Due.noSuch(house, "sort(7, 0)", () -> house.sort(7, 0));
        Due.faulty(house, "sort p23456789012; sort q;", 5, 24, 1);
        Due.equal("sorts", house.count(9), 8);
        Due.equal("the last", house.sort(7, 2), 'p');
        Due.equal("the last sign of the last", house.sort(7, 13), '2');
        Due.noSuch(house, "sort(8, 0)", () -> house.sort(8, 0));
        String p = "p23456789012";
        String text = "rule " + p + " " + p + " " + p + ";rule " + p + " a b;axiom " + p + " : a;";
        Due.equal("rules of the last", Due.say(house, text), 0);
        Due.equal("p p", house.rule(7, 7), 7);
        Due.equal("p a", house.rule(7, 0), 1);
        Due.equal("p : a", house.sort(7, 0), 0);
    }

    private static void eightFromACorner() {
        House house = new House();
        Due.faulty(house, "sort a;sort b;sort c;sort d;sort e;sort f;sort g;sort h;", 5, 47, 6);
        Due.equal("sorts", house.count(9), 8);
    }

    /** "sort s: 4 if there is such a SORT (at the NAME); 5 if there are 8": 4 ahead of 5. */
    private static void sortFaults() {
        House house = new House();
        Due.faulty(house, "sort type;", 4, 5, 0);
        Due.faulty(house, "sort typ;sort types;sort kind;", 4, 25, 2);
        House full = new House();
        full.corner(8);
        Due.equal("eight", Due.say(full, EIGHT), 0);
        Due.faulty(full, "sort  a;", 4, 6, 0);
        Due.faulty(full, "sort  p;", 4, 6, 0);
        Due.faulty(full, "sort  q;", 5, 6, 0);
        Due.spent(full, "no WORK", 0, 0, 0, 0, 0, 0);
    }

    /** "an AXIOM a : b (sort a has type b), one of each a at most" */
    private static void axioms() {
        House house = new House();
        house.corner(8);
        Due.equal("eight", Due.say(house, EIGHT), 0);
        Due.equal("none yet", house.count(10), 0);
        Due.equal("eight axioms", Due.say(house, "axiom a:a;axiom b:a;axiom d:b;axiom e:p;"
            + "axiom m:m;axiom n:a;axiom o:n;axiom p:a;"), 0);
        int[] due = {0, 0, 1, 7, 4, 0, 5, 0};
        for (int k = 0; k < due.length; k++) {
            Due.equal("axiom of " + k, house.sort(k, 0), due[k]);
        }
        Due.equal("axioms", house.count(10), 8);
    }

    /** "axiom a : b: 3, from the left (at it), if one is no SORT; 4 if a has one (at a)": 3 ahead of 4. */
    private static void axiomFaults() {
        House house = new House();
        Due.faulty(house, "axiom x : y;", 3, 6, 0);
        Due.faulty(house, "axiom x : type;", 3, 6, 0);
        Due.faulty(house, "axiom kind : y;", 3, 13, 0);
        Due.faulty(house, "axiom type : y;", 3, 13, 0);
        Due.faulty(house, "axiom  type : type;", 4, 7, 0);
        Due.faulty(house, "axiom type : kind;", 4, 6, 0);
        Due.equal("axioms", house.count(10), 1);
        Due.faulty(house, "axiom kind : type;axiom kind : kind;", 4, 24, 1);
        Due.equal("the first stays", house.sort(1, 0), 0);
    }

    /** "a RULE a b c, one of each pair a, b at most" */
    private static void rules() {
        House house = new House();
        house.corner(8);
        Due.equal("eight", Due.say(house, EIGHT), 0);
        String names = "abdemnop";
        StringBuilder text = new StringBuilder();
        for (int i = 0; i < 64; i++) {
            text.append("rule ").append(names.charAt(i / 8)).append(' ').append(names.charAt(i % 8)).append(' ');
            text.append(names.charAt(i * 5 % 8)).append(';');
        }
        Due.equal("64 rules", Due.say(house, text.toString()), 0);
        Due.equal("rules", house.count(11), 64);
        for (int i = 0; i < 64; i++) {
            Due.equal("rule " + i, house.rule(i / 8, i % 8), i * 5 % 8);
        }
    }

    /** "rule a b c: 3 likewise, 4 if a, b have one (at a)": 3 ahead of 4. */
    private static void ruleFaults() {
        House house = new House();
        house.corner(0);
        Due.faulty(house, "rule x y z;", 3, 5, 0);
        Due.faulty(house, "rule type y z;", 3, 10, 0);
        Due.faulty(house, "rule kind kind z;", 3, 15, 0);
        Due.faulty(house, "rule type type z;", 3, 15, 0);
        Due.faulty(house, "rule x type type;", 3, 5, 0);
        Due.faulty(house, "rule  type type kind;", 4, 6, 0);
        Due.faulty(house, "rule type kind type;rule type kind kind;", 4, 25, 1);
        Due.equal("the first stays", house.rule(0, 1), 0);
        Due.equal("kind type is another pair", Due.say(house, "rule kind type kind;"), 0);
        Due.equal("rules", house.count(11), 3);
    }

    /** "6 for all of them (ahead of the others, at the WORD) while the CONTEXT has NAMES" */
    private static void besideNames() {
        House house = Due.house("A : type;");
        Due.faulty(house, " sort s;", 6, 1, 0);
        Due.faulty(house, " axiom kind : type;", 6, 1, 0);
        Due.faulty(house, "check A; rule type kind type;", 6, 9, 1);
        Due.equal("sorts", house.count(9), 2);
        Due.equal("axioms", house.count(10), 1);
        Due.equal("rules", house.count(11), 4);
        House fresh = new House();
        Due.faulty(fresh, "sort s;A : type;sort t;", 6, 16, 2);
        Due.equal("s stays", fresh.count(9), 3);
    }

    private static void besideNamesAheadOfOthers() {
        House house = Due.house("A : type;");
        Due.faulty(house, " sort type;", 6, 1, 0);
        Due.faulty(house, " sort A;", 6, 1, 0);
        Due.faulty(house, " axiom x : y;", 6, 1, 0);
        Due.faulty(house, " axiom type : kind;", 6, 1, 0);
        Due.faulty(house, " rule x y z;", 6, 1, 0);
        Due.faulty(house, " rule type type type;", 6, 1, 0);
        House full = new House();
        full.corner(8);
        Due.equal("eight", Due.say(full, EIGHT + "axiom a : b;x : a;"), 0);
        Due.faulty(full, " sort q;", 6, 1, 0);
    }

    private static void withoutNamesAgain() {
        House house = new House();
        house.mark();
        Due.faulty(house, "A : type;sort x;", 6, 9, 1);
        Due.equal("back", house.back(), 0);
        Due.equal("sort", Due.say(house, "sort A;axiom kind : A;rule A A A;"), 0);
        Due.faulty(house, "A : type;", 4, 0, 0);
    }

    private static void typeInType() {
        House house = new House();
        house.corner(8);
        Due.faulty(house, "check type;", 3, 6, 0);
        Due.equal("type in type", Due.say(house, "sort s;axiom s : s;rule s s s;"), 0);
        Due.tells(house, "check s;check s->s;id := \\a:s.\\x:a.x;norm id s s;", "s\ns\ns\n");
        Due.tells(house, "check id (!a:s.a->a) id;", "!_0:s.!_1:_0._0\n");
    }
}
