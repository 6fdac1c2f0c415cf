/** Promises 3 and 4: how TERMS are judged (part 4 of the Terms), and the FAULTS 3 and 7 to 11 of that. */
public final class JudgingTest {
    private static final String BASE =
        "A : type;c : A;f : A->A;g : A->A->A;P : A->type;h : !x:A.P x;k : !x:A.P x->P (f x);";

    private JudgingTest() {
    }

    public static void main(String[] args) {
        sorts();
        names();
        unknownNames();
        products();
        productsWithoutSort();
        productsWithoutRule();
        lambdas();
        lambdasWithoutSort();
        lambdasWithoutRule();
        sevenAheadOfNine();
        sortsOfTypes();
        uses();
        usesOfNoProduct();
        usesOfOtherType();
        keptSorts();
        lets();
        letsWithoutSort();
        fromTheLeft();
        partsFirst();
        placesOfBrackets();
        firstTokens();
        capture();
        Due.end();
    }

    private static House ownTables(String text) {
        House house = new House();
        house.corner(8);
        Due.equal(text, Due.say(house, text), 0);
        return house;
    }

    /** "a SORT: its AXIOM's (7 if it has none; at it); that one's AXIOM's, or none" */
    private static void sorts() {
        House house = Due.house("x := type;");
        Due.equal("kind has no AXIOM", house.name(0, 1), Due.NONE);
        Due.tells(house, "check type;", "kind\n");
        Due.faulty(house, "check kind;", 7, 6, 0);
        Due.faulty(house, "check  (kind);", 7, 8, 0);
        House own = ownTables("sort a;sort b;sort t;axiom a : b;axiom b : t;x := a;y := b;");
        Due.equal("sort of the type of a", own.name(0, 1), 2);
        Due.equal("sort of the type of b", own.name(1, 1), Due.NONE);
        Due.tells(own, "check a;check b;", "b\nt\n");
        Due.faulty(own, "check t;", 7, 6, 0);
    }

    /** "A NAME of the CONTEXT, or bound: its TYPE, and the SORT of that." */
    private static void names() {
        House house = Due.house(BASE);
        Due.tells(house, "check A;check c;check f;check P;", "type\nA\n!_0:A.A\n!_0:A.type\n");
        Due.tells(house, "check \\x:A.x;check \\x:P c.x;", "!_0:A.A\n!_0:P c.P c\n");
        Due.equal("x, y, z", Due.say(house, "x := A;y := c;z := let w := type in w;"), 0);
        Due.equal("sort of type", house.name(7, 1), 1);
        Due.equal("sort of A", house.name(8, 1), 0);
        Due.equal("sort of kind", house.name(9, 1), Due.NONE);
    }

    /** "3: a NAME that is none of these, at it": bound NAMES are known in the second TERM alone. */
    private static void unknownNames() {
        House house = Due.house(BASE);
        Due.faulty(house, "check nix;", 3, 6, 0);
        Due.faulty(house, "check ( nix);", 3, 8, 0);
        Due.faulty(house, "check \\x:x.c;", 3, 9, 0);
        Due.faulty(house, "check !x:P x.A;", 3, 11, 0);
        Due.faulty(house, "check let x := f x in c;", 3, 17, 0);
        Due.faulty(house, "check (\\x:A.x) x;", 3, 15, 0);
        Due.faulty(house, "check (let x := f in x) x;", 3, 24, 0);
        Due.faulty(house, "check A->x;", 3, 9, 0);
        Due.faulty(house, "check C;", 3, 6, 0);
        Due.faulty(house, "check c';", 3, 6, 0);
    }

    /** "! x : A . B (and A -> B): A is judged; its TYPE must be a SORT a ...; A is NORMALIZED; B is judged" */
    private static void products() {
        House house = Due.house(BASE);
        Due.tells(house, "check !x:A.P x;check A->A;check A->type;check type->type;",
            "type\ntype\nkind\nkind\n");
        Due.tells(house, "check !a:type.a->a;check (A->type)->type;", "type\nkind\n");
        Due.tells(house, "check A->A;", "type\n");
        Due.spent(house, "A->A", 0, 0, 0, 0, 0, 1 + 1);
        Due.tells(house, "check !x:(\\a:type.a) A.P x;", "type\n");
        Due.tells(house, "check !a:(\\b:type->type.A) (\\b:type.b).A;", "type\n");
    }

    /** "8, at A's first token", "likewise (8, at B's)" */
    private static void productsWithoutSort() {
        House house = Due.house(BASE);
        Due.faulty(house, "check !x:c.A;", 8, 9, 0);
        Due.faulty(house, "check !x:f.A;", 8, 9, 0);
        Due.faulty(house, "check c->A;", 8, 6, 0);
        Due.faulty(house, "check !x:A.f x;", 8, 11, 0);
        Due.faulty(house, "check A->c;", 8, 9, 0);
        Due.faulty(house, "check A->\\x:A.x;", 8, 9, 0);
        Due.faulty(house, "check A->A->(f) c;", 8, 12, 0);
        Due.faulty(house, "check A->kind;", 7, 9, 0);
    }

    /** "9 without one, at the ! or ->" */
    private static void productsWithoutRule() {
        House house = new House();
        house.corner(0);
        Due.equal("A", Due.say(house, "A : type;"), 0);
        Due.faulty(house, "check !a:type.a;", 9, 6, 0);
        Due.faulty(house, "check (!a:type.A);", 9, 7, 0);
        Due.faulty(house, "check A -> type;", 9, 8, 0);
        Due.faulty(house, "check A->A->type;", 9, 10, 0);
        Due.faulty(house, "check type->A->A;", 9, 10, 0);
        Due.faulty(house, "check type -> type;", 9, 11, 0);
    }

    /** "\ x : A . M: A likewise; M is judged, x having that TYPE" */
    private static void lambdas() {
        House house = Due.house(BASE);
        Due.tells(house, "check \\x:A.h (f x);", "!_0:A.P (f _0)\n");
        Due.tells(house, "check \\a:type.\\b:a->a.\\x:a.b (b x);", "!_0:type.!_1:(!_1:_0._0).!_2:_0._0\n");
        Due.tells(house, "check \\p:A->type.\\x:A.\\q:p x.q;", "!_0:(!_0:A.type).!_1:A.!_2:_0 _1._0 _1\n");
        Due.tells(house, "check \\F:(\\a:type.a->a) A.F c;", "!_0:(!_0:A.A).A\n");
        Due.faulty(house, "check \\x:c.nix;", 8, 9, 0);
        Due.faulty(house, "check \\x:(f c).x;", 8, 9, 0);
        Due.faulty(house, "check \\x:kind.x;", 7, 9, 0);
    }

    /** "TYPE B, of SORT b (7 at the \ if it has none)" */
    private static void lambdasWithoutSort() {
        House house = Due.house(BASE);
        Due.faulty(house, "check \\x:A.type;", 7, 6, 0);
        Due.faulty(house, "check f (\\a:type.type);", 7, 9, 0);
        Due.faulty(house, "check \\x:A.A->type;", 7, 6, 0);
        Due.tells(house, "check \\x:A.A->A;", "!_0:A.type\n");
        Due.faulty(house, "check \\x:A.let t := type in t;", 7, 6, 0);
    }

    /** "its SORT c of the RULE a b (9, at the \ )" */
    private static void lambdasWithoutRule() {
        House house = new House();
        house.corner(0);
        Due.equal("A", Due.say(house, "A : type;"), 0);
        Due.faulty(house, "check \\a:type.\\x:a.x;", 9, 6, 0);
        Due.faulty(house, "check \\x:A.\\a:type.a;", 9, 11, 0);
        Due.faulty(house, "check \\x:A.A;", 9, 6, 0);
        Due.faulty(house, "check ( \\x:A.A);", 9, 8, 0);
        Due.tells(house, "check \\x:A.x;", "!_0:A.A\n");
    }

    /** What has no SORT has no RULE either, and is told as 7. */
    private static void sevenAheadOfNine() {
        House house = new House();
        house.corner(0);
        Due.faulty(house, "check \\a:type.type;", 7, 6, 0);
        House own = ownTables("sort a;sort b;axiom a : b;");
        Due.faulty(own, "check \\x:a.a;", 7, 6, 0);
        Due.faulty(own, "check \\x:a.x;", 9, 6, 0);
    }

    /** The SORT that a TYPE is of: c of the RULE, or the AXIOM's of c, or none. */
    private static void sortsOfTypes() {
        House house = ownTables("sort a;sort b;sort t;axiom a : b;axiom b : t;rule a a t;rule b b a;"
            + "x : a;l := \\y:x.y;m := \\y:a.y;n := x->x;o := a->a;");
        int[] sorts = {1, 2, 0, Due.NONE, 1};
        for (int k = 0; k < sorts.length; k++) {
            Due.equal("sort of " + k, house.name(k, 1), sorts[k]);
        }
        Due.tells(house, "check x->x;check a->a;", "t\na\n");
        Due.faulty(house, "check \\y:x.x->x;", 7, 6, 0);
        Due.faulty(house, "check (x->x)->x;", 9, 12, 0);
    }

    /** "Its TYPE is B with N for x, NORMALIZED" */
    private static void uses() {
        House house = Due.house(BASE);
        Due.tells(house, "check f c;check h c;check h (f c);check k c;", "A\nP c\nP (f c)\n!_0:P c.P (f c)\n");
        Due.tells(house, "check k (f c) (k c (h c));", "P (f (f c))\n");
        Due.tells(house, "check h ((\\x:A.x) c);", "P c\n");
        Due.tells(house, "check (\\a:type.\\x:a.x) (A->A) f;", "!_0:A.A\n");
        Due.tells(house, "check (\\p:A->type.\\x:p c.x) (\\y:A.P (f y));", "!_0:P (f c).P (f c)\n");
    }

    /** "its TYPE must be a ! x : A . B (10, at M's first token)" */
    private static void usesOfNoProduct() {
        House house = Due.house(BASE);
        Due.faulty(house, "check c c;", 10, 6, 0);
        Due.faulty(house, "check A c;", 10, 6, 0);
        Due.faulty(house, "check type c;", 10, 6, 0);
        Due.faulty(house, "check (A->A) c;", 10, 6, 0);
        Due.faulty(house, "check f c c;", 10, 6, 0);
        Due.faulty(house, "check g c c c c;", 10, 6, 0);
        Due.faulty(house, "check \\x:A.x c;", 10, 11, 0);
    }

    /** "A and its TYPE are COMPARED (11, at N's first token, if they are not the same)" */
    private static void usesOfOtherType() {
        House house = Due.house(BASE + "d := f c;q : P d;");
        Due.faulty(house, "check f f;", 11, 8, 0);
        Due.faulty(house, "check g c (f);", 11, 10, 0);
        Due.faulty(house, "check g c (f f);", 11, 13, 0);
        Due.faulty(house, "check k c (h (f c));", 11, 10, 0);
        Due.faulty(house, "check f type;", 11, 8, 0);
        Due.tells(house, "check k (f c) q;check k d (h (f c));", "P (f (f c))\nP (f (f c))\n");
    }

    /** "of the SORT b that the ! keeps", "It keeps a and b (in NORMAL FORMS, too)" */
    private static void keptSorts() {
        House house = Due.house(BASE + "x := f c;y := h c;z := P c;"
            + "F : !a:type.a->type;w := F A c;v := F A;i := \\a:type.\\x:a.x;u := i (A->A);t := u f;");
        int[] places = {7, 8, 9, 11, 12, 13, 14, 15};
        int[] sorts = {0, 0, 1, 1, 1, 0, 0, 0};
        for (int i = 0; i < places.length; i++) {
            Due.equal("sort of " + places[i], house.name(places[i], 1), sorts[i]);
        }
        House own = ownTables("sort a;sort b;sort t;axiom a : b;axiom b : t;rule a a b;rule a b b;"
            + "x : a;y : x;n : x->x->x;l := n y;m := l y;j := \\z:x.n z z;o := j y;");
        int[] kept = {1, 0, 1, 1, 0, 1, 0};
        for (int k = 0; k < kept.length; k++) {
            Due.equal("kept " + k, own.name(k, 1), kept[k]);
        }
    }

    /** "let x := N in M: N is judged ...; M is judged, x being N ..., with TYPE A: its TYPE and SORT are M's" */
    private static void lets() {
        House house = Due.house(BASE);
        Due.tells(house, "check let x := f c in h x;", "P (f c)\n");
        Due.tells(house, "check \\y:A.let x := f y in k x (h x);", "!_0:A.P (f (f _0))\n");
        Due.tells(house, "check let t := A->A in \\x:t.x c;", "!_0:(!_0:A.A).A\n");
        Due.tells(house, "check let i := \\a:type.\\x:a.x in i (A->A) (i A);", "!_0:A.A\n");
        Due.tells(house, "check let x := c in let x := h x in x;", "P c\n");
        Due.faulty(house, "check let x := c in x c;", 10, 20, 0);
        Due.faulty(house, "check let x := c in f h;", 11, 22, 0);
        Due.equal("y", Due.say(house, "y := let x := A in c;"), 0);
        Due.equal("its sort", house.name(7, 1), 0);
    }

    /** "A, of SORT a, perhaps none": N may be what no \ could be applied to. */
    private static void letsWithoutSort() {
        House house = Due.house(BASE);
        Due.tells(house, "check let t := type in A;check let t := type in t;", "type\nkind\n");
        Due.tells(house, "check let t := type in \\x:t.x;", "!_0:type.type\n");
        Due.tells(house, "check let t := A->type in \\x:t.x c;", "!_0:(!_0:A.type).type\n");
        Due.faulty(house, "check let x := kind in c;", 7, 15, 0);
    }

    /** "From the left": of two faults the one that is judged first. */
    private static void fromTheLeft() {
        House house = Due.house(BASE);
        Due.faulty(house, "check nix nox;", 3, 6, 0);
        Due.faulty(house, "check f nix nox;", 3, 8, 0);
        Due.faulty(house, "check nix->nox;", 3, 6, 0);
        Due.faulty(house, "check c->nix;", 8, 6, 0);
        Due.faulty(house, "check !x:c.nix;", 8, 9, 0);
        Due.faulty(house, "check let x := nix in nox;", 3, 15, 0);
        Due.faulty(house, "check c nix;", 10, 6, 0);
        Due.faulty(house, "check f c nix;", 10, 6, 0);
        Due.faulty(house, "check g f nix;", 11, 8, 0);
        Due.faulty(house, "check g nix f;", 3, 8, 0);
        Due.faulty(house, "check g kind nix;", 7, 8, 0);
        Due.faulty(house, "check \\x:kind.nix;", 7, 9, 0);
    }

    /** "parts first": a part's fault is ahead of what the whole would have. */
    private static void partsFirst() {
        House house = Due.house(BASE);
        Due.faulty(house, "check f (c c);", 10, 9, 0);
        Due.faulty(house, "check f (h nix);", 3, 11, 0);
        Due.faulty(house, "check \\x:A.type nix;", 10, 11, 0);
        Due.faulty(house, "check f (\\x:A.type);", 7, 9, 0);
        House low = new House();
        low.corner(0);
        Due.equal("A", Due.say(low, "A : type;c : A;"), 0);
        Due.faulty(low, "check !a:type.c;", 8, 14, 0);
        Due.faulty(low, "check !a:type.nix;", 3, 14, 0);
        Due.faulty(low, "check (A->type)->type;", 9, 8, 0);
        Due.faulty(low, "check \\a:type.\\x:A.a;", 9, 14, 0);
    }

    /** "( ) count for nothing; a TERM's first token is its ( , if it has one; of M in ( M N ) it is M's own" */
    private static void placesOfBrackets() {
        House house = Due.house(BASE);
        Due.faulty(house, "check ((nix));", 3, 8, 0);
        Due.faulty(house, "check !x:((c)).A;", 8, 9, 0);
        Due.faulty(house, "check (c)->A;", 8, 6, 0);
        Due.faulty(house, "check (f) c->A;", 8, 6, 0);
        Due.faulty(house, "check A->(A->c);", 8, 13, 0);
        Due.faulty(house, "check (f c) c;", 10, 6, 0);
        Due.faulty(house, "check (f c c);", 10, 7, 0);
        Due.faulty(house, "check ((f) c c);", 10, 7, 0);
        Due.faulty(house, "check ((f c) c) c;", 10, 7, 0);
        Due.faulty(house, "check ((c)) c;", 10, 6, 0);
        Due.faulty(house, "check (c c) c;", 10, 7, 0);
        Due.faulty(house, "check (f) ((f));", 11, 10, 0);
        Due.faulty(house, "check f (f f);", 11, 11, 0);
        Due.faulty(house, "check (f (f)) c;", 11, 9, 0);
    }

    /** The first token of what begins with a sign, a word, or another TERM. */
    private static void firstTokens() {
        House house = Due.house(BASE);
        Due.faulty(house, "check A->f c;", 8, 9, 0);
        Due.faulty(house, "check !x:\\y:A.y.A;", 8, 9, 0);
        Due.faulty(house, "check A->let x := c in x;", 8, 9, 0);
        Due.faulty(house, "x : let y := c in y;", 8, 4, 0);
        Due.faulty(house, "x : A := A->A;", 11, 9, 0);
        Due.faulty(house, "x : A := (A)->A;", 11, 9, 0);
        Due.faulty(house, "x : A := \\y:A.y;", 11, 9, 0);
        Due.faulty(house, "x : A := g c;", 11, 9, 0);
        Due.faulty(house, "check f ( A->A);", 11, 8, 0);
        Due.faulty(house, "check f {f} ( let x := f in x);", 11, 12, 0);
    }

    private static void capture() {
        House house = Due.house(BASE + "t := \\a:type.\\s:a->a.\\z:a.s (s z);");
        Due.tells(house, "norm t (A->A) (t A);", "\\_0:(!_0:A.A).\\_1:A._0 (_0 (_0 (_0 _1)))\n");
        Due.tells(house, "check \\x:A.\\q:P x.\\y:A.let x := y in k x;",
            "!_0:A.!_1:P _0.!_2:A.!_3:P _2.P (f _2)\n");
        Due.tells(house, "check \\x:A.(\\y:A.\\x:A.k y) x;", "!_0:A.!_1:A.!_2:P _0.P (f _0)\n");
        Due.tells(house, "check (\\p:A->type.\\x:A.\\y:p x.y) (\\x:A.P (f x)) c;",
            "!_0:P (f c).P (f c)\n");
    }
}
