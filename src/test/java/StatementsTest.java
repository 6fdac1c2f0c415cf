/** Promises 3 and 4: the STATEMENTS that speak of the CONTEXT and of TERMS, and the order of their FAULTS. */
public final class StatementsTest {
    private static final String BASE = "A : type;c : A;f : A->A;P : A->type;h : !x:A.P x;";

    private StatementsTest() {
    }

    public static void main(String[] args) {
        assume();
        assumeWithValue();
        define();
        knownNames();
        hundredNames();
        knownAheadOfFull();
        knownAndFullAheadOfTheTerm();
        assumeFaults();
        valueFaults();
        noNameInItsOwnTerms();
        check();
        checkAgainst();
        typeAheadOfTheTerm();
        norm();
        head();
        headOfAHundred();
        same();
        firstFaultEnds();
        nothingOfThatStatement();
        Due.end();
    }

    /** "A is NORMALIZED; x is there, with that TYPE, of that SORT" */
    private static void assume() {
        House house = Due.house(BASE);
        Due.tells(house, "x : P ((\\y:A.y) c);check x;norm x;", "P c\nx\n");
        Due.equal("no VALUE", house.name(5, 0), 0);
        Due.equal("of SORT type", house.name(5, 1), 0);
        Due.tells(house, "y : A->type;check y;", "!_0:A.type\n");
        Due.equal("of SORT kind", house.name(6, 1), 1);
        Due.equal("z", Due.say(house, "z : A->A;"), 0);
        Due.spent(house, "z : A->A", 0, 0, 0, 0, 0, 1 + 3);
    }

    /** "x : A := M: then M is judged, A as NORMALIZED COMPARED with its TYPE ...; x has VALUE M" */
    private static void assumeWithValue() {
        House house = Due.house(BASE);
        Due.tells(house, "x : P ((\\y:A.y) c) := h c;check x;norm x;", "P c\nh c\n");
        Due.equal("a VALUE", house.name(5, 0), 1);
        Due.equal("of SORT type", house.name(5, 1), 0);
        Due.equal("y", Due.say(house, "y : A := f c;"), 0);
        Due.spent(house, "y : A := f c", 0, 0, 0, 0, 0, 1 + 2 + 1);
        Due.equal("z", Due.say(house, "z : type := A->A;"), 0);
        Due.equal("of SORT kind", house.name(7, 1), 1);
        Due.tells(house, "w : z := f;check w;", "!_0:A.A\n");
        Due.tells(house, "v : P y := h (f c);check v;", "P (f c)\n");
    }

    /** "x := M: ...; M is judged; x has its TYPE (and the SORT of that, perhaps none), and VALUE M" */
    private static void define() {
        House house = Due.house(BASE);
        Due.tells(house, "x := f c;check x;norm x;", "A\nf c\n");
        Due.equal("y", Due.say(house, "y := f c;"), 0);
        Due.spent(house, "y := f c", 0, 0, 0, 0, 0, 2);
        Due.tells(house, "t := type;check t;norm t;check \\z:t.z;", "kind\ntype\n!_0:type.type\n");
        int[] sorts = {0, 0, Due.NONE};
        for (int i = 0; i < sorts.length; i++) {
            Due.equal("VALUE of " + (5 + i), house.name(5 + i, 0), 1);
            Due.equal("SORT of " + (5 + i), house.name(5 + i, 1), sorts[i]);
        }
        Due.tells(house, "w : t;check w;check \\v:w.v;", "type\n!_0:w.w\n");
        Due.tells(house, "u := A->type;check u;", "kind\n");
        Due.equal("none", house.name(9, 1), Due.NONE);
    }

    /** "4 if x is a NAME of the CONTEXT or a SORT (at x)" */
    private static void knownNames() {
        House house = Due.house(BASE);
        Due.faulty(house, " c : A;", 4, 1, 0);
        Due.faulty(house, " h : A := c;", 4, 1, 0);
        Due.faulty(house, " A := c;", 4, 1, 0);
        Due.faulty(house, " type : type;", 4, 1, 0);
        Due.faulty(house, " kind := c;", 4, 1, 0);
        Due.faulty(house, "d : A;d : A;", 4, 6, 1);
        Due.faulty(house, "e := c;\ne := c;", 4, 8, 1);
        Due.equal("names", house.count(8), 7);
        House own = new House();
        own.corner(8);
        Due.faulty(own, "sort s;axiom s : s;type : s;s : s;", 4, 28, 3);
        Due.equal("type is no SORT here", own.name(0, 2), 4);
    }

    private static House full(int names) {
        StringBuilder text = new StringBuilder();
        for (int i = 0; i < names; i++) {
            text.append('x').append(i).append(":type;");
        }
        return Due.house(text.toString());
    }

    /** "5 if there are 100 (at x)": 99, 100 and 101 of them. */
    private static void hundredNames() {
        House house = full(99);
        Due.faulty(house, "y : type; z : type;", 5, 10, 1);
        Due.equal("names", house.count(8), 100);
        Due.faulty(house, " z := x0;", 5, 1, 0);
        Due.faulty(house, " z : type := x0;", 5, 1, 0);
        Due.equal("names", house.count(8), 100);
        Due.tells(house, "norm y->x98;norm x0;", "!_0:y.x98\nx0\n");
        Due.equal("the last", house.name(99, 3), 'y');
        House other = full(99);
        other.mark();
        Due.equal("y", Due.say(other, "y := type;"), 0);
        Due.faulty(other, "z := type;", 5, 0, 0);
        Due.equal("back", other.back(), 99);
        Due.equal("there is room again", Due.say(other, "z := type;"), 0);
    }

    /** 4 stands ahead of 5: both hold of a NAME that is there when all places are taken. */
    private static void knownAheadOfFull() {
        House house = full(100);
        Due.faulty(house, "x99 : type;", 4, 0, 0);
        Due.faulty(house, "x0 := type;", 4, 0, 0);
        Due.faulty(house, "kind : type;", 4, 0, 0);
        Due.faulty(house, "x100 : type;", 5, 0, 0);
    }

    /** Both stand ahead of the judging of A, and of M. */
    private static void knownAndFullAheadOfTheTerm() {
        House house = Due.house(BASE);
        Due.faulty(house, "c : nix;", 4, 0, 0);
        Due.faulty(house, "c := nix;", 4, 0, 0);
        Due.faulty(house, "type : c;", 4, 0, 0);
        Due.spent(house, "no WORK", 0, 0, 0, 0, 0, 0);
        House other = full(100);
        Due.faulty(other, "y : nix;", 5, 0, 0);
        Due.faulty(other, "y := nix;", 5, 0, 0);
        Due.faulty(other, "y : type := nix;", 5, 0, 0);
        other.limit(1);
        Due.faulty(other, "y : x0->x1;", 5, 0, 0);
    }

    /** "its TYPE must be a SORT (8, at A's first token)" */
    private static void assumeFaults() {
        House house = Due.house(BASE);
        Due.faulty(house, "x : c;", 8, 4, 0);
        Due.faulty(house, "x : (f c);", 8, 4, 0);
        Due.faulty(house, "x :  \\y:A.y;", 8, 5, 0);
        Due.faulty(house, "x : kind;", 7, 4, 0);
        Due.faulty(house, "x : nix;", 3, 4, 0);
        Due.faulty(house, "x : c := nix;", 8, 4, 0);
        Due.faulty(house, "x : nix := nox;", 3, 4, 0);
        Due.equal("names", house.count(8), 5);
    }

    /** "(11, at M's first token)" */
    private static void valueFaults() {
        House house = Due.house(BASE);
        Due.faulty(house, "x : A := f;", 11, 9, 0);
        Due.faulty(house, "x : A :=  (f);", 11, 10, 0);
        Due.faulty(house, "x : P c := h (f c);", 11, 11, 0);
        Due.faulty(house, "x : A := type;", 11, 9, 0);
        Due.faulty(house, "x : A := nix;", 3, 9, 0);
        Due.faulty(house, "x : A := f f;", 11, 11, 0);
        Due.faulty(house, "x := nix;", 3, 5, 0);
        Due.faulty(house, "x := kind;", 7, 5, 0);
        Due.equal("names", house.count(8), 5);
    }

    /** Its VALUE cannot speak of a NAME that is yet to come. */
    private static void noNameInItsOwnTerms() {
        House house = Due.house(BASE);
        Due.faulty(house, "x : x;", 3, 4, 0);
        Due.faulty(house, "x := x;", 3, 5, 0);
        Due.faulty(house, "x : A := x;", 3, 9, 0);
        Due.faulty(house, "x := y;y := c;", 3, 5, 0);
    }

    /** "check M: M is judged; its TYPE is TOLD, and a byte 10" */
    private static void check() {
        House house = Due.house(BASE);
        Due.tells(house, "check f c;check h;", "A\n!_0:A.P _0\n");
        Due.tells(house, "check f c;", "A\n");
        Due.spent(house, "check f c", 0, 0, 0, 0, 0, 2 + 1);
    }

    /** "check M : A: A as of x : A, then M is judged, COMPARED as above; yes and a 10 are put out" */
    private static void checkAgainst() {
        House house = Due.house(BASE);
        Due.tells(house, "check c : A;check f : (\\a:type.a->a) A;check A : type;", "yes\nyes\nyes\n");
        Due.tells(house, "check f : A->A;", "yes\n");
        Due.spent(house, "check f : A->A", 0, 0, 0, 0, 0, 1 + 3 + 3);
        Due.faulty(house, "check c : P c;", 11, 6, 0);
        Due.faulty(house, "check (f c) : P c;", 11, 6, 0);
        Due.faulty(house, "check f c : type;", 11, 6, 0);
        Due.faulty(house, "check c : (c);", 8, 10, 0);
        Due.faulty(house, "check nix : A;", 3, 6, 0);
        Due.holds(house, "a fault", "");
    }

    /** A is judged ahead of M, though it stands behind it. */
    private static void typeAheadOfTheTerm() {
        House house = Due.house(BASE);
        Due.faulty(house, "check nix : nox;", 3, 12, 0);
        Due.faulty(house, "check (nix) : (c);", 8, 14, 0);
        Due.faulty(house, "check type : kind;", 7, 13, 0);
        Due.faulty(house, "check c c : A A;", 10, 12, 0);
        house.limit(1);
        Due.faulty(house, "check nix : A->A;", 12, 0, 0);
    }

    private static void norm() {
        House house = Due.house(BASE + "two := \\s:A->A.\\z:A.s (s z);");
        Due.tells(house, "norm two f c;norm two;", "f (f c)\n\\_0:(!_0:A.A).\\_1:A._0 (_0 _1)\n");
        Due.tells(house, "norm type;norm let x := type in x;", "type\ntype\n");
        Due.faulty(house, "norm c;norm f f;norm c;", 11, 14, 1);
        Due.holds(house, "one of three", "c\n");
        Due.faulty(house, "norm kind;", 7, 5, 0);
    }

    /** "\ or ! or a SORT or NAME, a blank, in decimal to how many it is applied (of \ and ! 0), a 10" */
    private static void head() {
        House house = Due.house(BASE + "two := \\s:A->A.\\z:A.s (s z);");
        Due.tells(house, "head two f c;head two f;head A->A;head type;", "f 1\n\\ 0\n! 0\ntype 0\n");
        Due.faulty(house, "head f f;", 11, 7, 0);
        StringBuilder type = new StringBuilder();
        for (int n = 0; n < 12; n++) {
            type.append("A->");
        }
        Due.tells(house, "m : " + type + "A;head m" + Due.times(" c", 9) + ";", "m 9\n");
        Due.tells(house, "head m" + Due.times(" c", 10) + ";head m" + Due.times(" c", 12) + ";", "m 10\nm 12\n");
    }

    /** With a type of 99 products for a, that NAME is applied to as many and the type. */
    private static void headOfAHundred() {
        House house = Due.house("A : type;c : A;p : !a:type.a;R := \\a:type." + Due.times("A->", 11) + "a;");
        String type = Due.times("R (", 9) + "A" + Due.times(")", 9);
        house.limit(20000);
        Due.tells(house, "head p (" + type + ")" + Due.times(" c", 98) + ";", "p 99\n");
        Due.tells(house, "head p (" + type + ")" + Due.times(" c", 99) + ";", "p 100\n");
    }

    /** "same M = N: M, N are judged, then COMPARED: yes or no, and a 10" */
    private static void same() {
        House house = Due.house(BASE);
        Due.tells(house, "same f c = f c;same f c = c;same c = f;", "yes\nno\nno\n");
        Due.faulty(house, "same nix = nox;", 3, 5, 0);
        Due.faulty(house, "same c = nox;", 3, 9, 0);
        Due.faulty(house, "same type = kind;", 7, 12, 0);
        Due.faulty(house, "same f f = c c;", 11, 7, 0);
        Due.holds(house, "a fault", "");
    }

    /** "the first FAULT ends the TEXT, what was done ahead stays" */
    private static void firstFaultEnds() {
        House house = Due.house(BASE);
        Due.faulty(house, "x : A;norm x;y := nix;z : A;norm x;", 3, 18, 2);
        Due.holds(house, "ahead of it", "x\n");
        Due.equal("x stays, z does not come", house.count(8), 6);
        Due.equal("x", house.name(5, 3), 'x');
        Due.faulty(house, "y : A;check nix;", 3, 12, 1);
        Due.equal("y stays", house.count(8), 7);
        House tables = new House();
        Due.faulty(tables, "sort s;axiom s : s;rule s s s;sort s;sort t;", 4, 35, 3);
        Due.equal("sorts", tables.count(9), 3);
        Due.equal("axioms", tables.count(10), 2);
        Due.equal("rules", tables.count(11), 5);
    }

    /** "of that STATEMENT nothing but OUT" */
    private static void nothingOfThatStatement() {
        House house = Due.house(BASE);
        Due.faulty(house, "x : A := f;", 11, 9, 0);
        Due.faulty(house, "check x;", 3, 6, 0);
        Due.equal("x", Due.say(house, "x : P c;"), 0);
        Due.equal("without a VALUE", house.name(5, 0), 0);
        Due.faulty(house, "check c : A;check f : A;", 11, 18, 1);
        Due.holds(house, "check", "yes\n");
    }
}
