/** Promises 3 and 4: how TERMS are judged, and the FAULTS 3 to 11 with their places. */
public final class JudgingTest {
    private static final String BASE =
        "A : type;c : A;f : A->A;g : A->A->A;P : A->type;h : !x:A.P x;k : !x:A.P x->P (f x);";

    private JudgingTest() {
    }

    public static void main(String[] args) {
        types();
        names();
        lets();
        firstFaults();
        placesOfBrackets();
        assumeAndDefine();
        checkAgainst();
        normalForms();
        capture();
        Due.end();
    }

    private static void types() {
        PureHouse house = Due.house(BASE);
        Due.tells(house, "check type;check A;check f;check P;", "kind\ntype\n!_0:A.A\n!_0:A.type\n");
        Due.tells(house, "check h c;check h (f c);check k c;", "P c\nP (f c)\n!_0:P c.P (f c)\n");
        Due.tells(house, "check k (f c) (k c (h c));", "P (f (f c))\n");
        Due.tells(house, "check \\x:A.h (f x);", "!_0:A.P (f _0)\n");
        Due.tells(house, "check \\a:type.\\b:a->a.\\x:a.b (b x);", "!_0:type.!_1:(!_1:_0._0).!_2:_0._0\n");
        Due.tells(house, "check \\p:A->type.\\x:A.\\q:p x.q;", "!_0:(!_0:A.type).!_1:A.!_2:_0 _1._0 _1\n");
        Due.tells(house, "check !x:A.P x;check (A->type)->type;", "type\nkind\n");
        Due.tells(house, "check \\F:(\\a:type.a->a) A.F c;", "!_0:(!_0:A.A).A\n");
    }

    private static void names() {
        PureHouse house = Due.house(BASE);
        Due.tells(house, "norm \\c:A.c;norm \\type:A.type;", "\\_0:A._0\n\\_0:A._0\n");
        Due.tells(house, "norm \\A:A.A;norm \\x:A.\\x:P x.x;", "\\_0:A._0\n\\_0:A.\\_1:P _0._1\n");
        Due.tells(house, "norm let c := f c in c;", "f c\n");
        Due.faulty(house, "check \\x:x.c;", 3, 9, 0);
        Due.faulty(house, "check let x := x in c;", 3, 15, 0);
        Due.faulty(house, "check (\\x:A.x) x;", 3, 15, 0);
        Due.faulty(house, "z : A := z;", 3, 9, 0);
        Due.faulty(house, "z := z;", 3, 5, 0);
    }

    private static void lets() {
        PureHouse house = Due.house(BASE);
        Due.tells(house, "check let x := f c in h x;", "P (f c)\n");
        Due.tells(house, "check \\y:A.let x := f y in k x (h x);", "!_0:A.P (f (f _0))\n");
        Due.tells(house, "check let t := A->A in \\x:t.x c;", "!_0:(!_0:A.A).A\n");
        Due.tells(house, "check let t := type in A;", "type\n");
        Due.tells(house, "check let i := \\a:type.\\x:a.x in i (A->A) (i A);", "!_0:A.A\n");
        Due.faulty(house, "check let x := kind in c;", 7, 15, 0);
    }

    private static void firstFaults() {
        PureHouse house = Due.house(BASE);
        Due.faulty(house, "check nix;", 3, 6, 0);
        Due.faulty(house, "check f nix nox;", 3, 8, 0);
        Due.faulty(house, "check kind;", 7, 6, 0);
        Due.faulty(house, "check \\a:type.type;", 7, 6, 0);
        Due.faulty(house, "check f (\\a:type.type);", 7, 9, 0);
        Due.faulty(house, "check !x:c.A;", 8, 9, 0);
        Due.faulty(house, "check \\x:c.nix;", 8, 9, 0);
        Due.faulty(house, "check !x:A.f x;", 8, 11, 0);
        Due.faulty(house, "check c->A;", 8, 6, 0);
        Due.faulty(house, "check A->c;", 8, 9, 0);
        Due.faulty(house, "check A->A->(f) c;", 8, 12, 0);
        Due.faulty(house, "check c c;", 10, 6, 0);
        Due.faulty(house, "check f c nix;", 10, 6, 0);
        Due.faulty(house, "check A c;", 10, 6, 0);
        Due.faulty(house, "check f f;", 11, 8, 0);
        Due.faulty(house, "check g c (f f);", 11, 13, 0);
        Due.faulty(house, "check k c (h (f c));", 11, 10, 0);
        Due.faulty(house, "check h;check k (f c) (h c);", 11, 22, 1);
        house.corner(0);
        Due.faulty(house, "A : type;check \\x:A.\\a:type.a;", 9, 20, 1);
        Due.faulty(house, "check \\a:type.\\x:a.x;", 9, 6, 0);
        Due.faulty(house, "check \\x:A.A;", 9, 6, 0);
        Due.faulty(house, "check A->A->type;", 9, 10, 0);
        Due.faulty(house, "check !a:type.a;", 9, 6, 0);
    }

    private static void placesOfBrackets() {
        PureHouse house = Due.house(BASE);
        Due.faulty(house, "check ((nix));", 3, 8, 0);
        Due.faulty(house, "check (kind);", 7, 7, 0);
        Due.faulty(house, "check !x:((c)).A;", 8, 9, 0);
        Due.faulty(house, "check (c)->A;", 8, 6, 0);
        Due.faulty(house, "check (f) c->A;", 8, 6, 0);
        Due.faulty(house, "check (f c) c;", 10, 6, 0);
        Due.faulty(house, "check (f c c);", 10, 7, 0);
        Due.faulty(house, "check ((f) c c);", 10, 7, 0);
        Due.faulty(house, "check ((f c) c) c;", 10, 7, 0);
        Due.faulty(house, "check (f) ((f));", 11, 10, 0);
        house.corner(0);
        Due.faulty(house, "A : type;check ((!a:type.a));", 9, 17, 1);
        Due.faulty(house, "check (A -> type);", 9, 9, 0);
        Due.faulty(house, "check (\\a:type.a);", 9, 7, 0);
    }

    private static void assumeAndDefine() {
        PureHouse house = Due.house(BASE);
        Due.faulty(house, "A : nix;", 4, 0, 0);
        Due.faulty(house, "type : type;", 4, 0, 0);
        Due.faulty(house, " kind := c;", 4, 1, 0);
        Due.faulty(house, "x : c;", 8, 4, 0);
        Due.faulty(house, "x : (f c);", 8, 4, 0);
        Due.faulty(house, "x : kind;", 7, 4, 0);
        Due.faulty(house, "x : A := f;", 11, 9, 0);
        Due.faulty(house, "x : A := (f);", 11, 9, 0);
        Due.faulty(house, "x : P c := h (f c);", 11, 11, 0);
        Due.equal("nothing stays of them", house.count(8), 7);
        Due.tells(house, "x : P ((\\y:A.y) c) := h c;check x;norm x;", "P c\nh c\n");
        Due.tells(house, "y := type;check y;check \\z:y.z;", "kind\n!_0:type.type\n");
        Due.tells(house, "w : y;check w;check \\v:w.v;", "type\n!_0:w.w\n");
    }

    private static void checkAgainst() {
        PureHouse house = Due.house(BASE);
        Due.tells(house, "check c : A;check f : (\\a:type.a->a) A;", "yes\nyes\n");
        Due.tells(house, "check A : type;check \\x:A.x : A->A;", "yes\nyes\n");
        Due.faulty(house, "check c : P c;", 11, 6, 0);
        Due.faulty(house, "check (nix) : (c);", 8, 14, 0);
        Due.faulty(house, "check nix : A;", 3, 6, 0);
        Due.faulty(house, "check type : kind;", 7, 13, 0);
        Due.equal("outs", house.outs(), 0);
    }

    private static void normalForms() {
        PureHouse house = Due.house(BASE + "two := \\s:A->A.\\z:A.s (s z);R : (A->A)->A;");
        Due.tells(house, "norm two f c;norm two;", "f (f c)\n\\_0:(!_0:A.A).\\_1:A._0 (_0 _1)\n");
        Due.tells(house, "norm R (\\x:A.x);norm R (two f);", "R (\\_0:A._0)\nR (\\_0:A.f (f _0))\n");
        Due.tells(house, "norm \\x:P c.R (\\y:A.g y y);", "\\_0:P c.R (\\_1:A.g _1 _1)\n");
        Due.tells(house, "norm P c->!x:A.P x;", "!_0:P c.!_1:A.P _1\n");
        Due.tells(house, "same two f = \\x:A.f (f x);same f = \\x:A.f x;", "yes\nno\n");
        Due.tells(house, "same g c = g c c;same g c (f c) = g c c;", "no\nno\n");
        Due.tells(house, "same \\x:A.x = A->A;same A->A = !y:A.A;same type = A;", "no\nyes\nno\n");
        Due.tells(house, "head two f c;head two f;head A->A;head g (f c);", "f 1\n\\ 0\n! 0\ng 1\n");
    }

    private static void capture() {
        PureHouse house = Due.house(BASE);
        Due.tells(house, "norm \\y:A.(\\x:A.\\y:A.g x y) y;", "\\_0:A.\\_1:A.g _0 _1\n");
        Due.tells(house, "norm \\x:A.let y := x in \\x:A.g x y;", "\\_0:A.\\_1:A.g _1 _0\n");
        Due.equal("twice", Due.say(house, "t := \\a:type.\\s:a->a.\\z:a.s (s z);"), 0);
        Due.tells(house, "norm t (A->A) (t A);",
            "\\_0:(!_0:A.A).\\_1:A._0 (_0 (_0 (_0 _1)))\n");
        Due.tells(house, "check \\x:A.\\q:P x.\\y:A.let x := y in k x;",
            "!_0:A.!_1:P _0.!_2:A.!_3:P _2.P (f _2)\n");
    }
}
