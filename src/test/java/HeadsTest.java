/** Promise 9: the STEPS B, D, Z, P and V by which TERMS come to their HEADS (part 3 of the Terms). */
public final class HeadsTest {
    private static final String BASE = "A : type;c : A;f : A->A;g : A->A->A;P : A->type;h : !x:A.P x;";

    private HeadsTest() {
    }

    public static void main(String[] args) {
        heads();
        stepB();
        stepZ();
        stepD();
        stepP();
        behindItAlready();
        stepV();
        whereItWasWritten();
        workedOutAnew();
        allTogether();
        judgedLets();
        inTypes();
        noStepsInside();
        namesBoundAgain();
        Due.end();
    }

    /** "It has a HEAD then: \ , ! , a SORT or a NAME without a VALUE" */
    private static void heads() {
        House house = Due.house(BASE);
        Due.tells(house, "head type;", "type 0\n");
        Due.spent(house, "a SORT", 0, 0, 0, 0, 0, 0);
        Due.tells(house, "head c;", "c 0\n");
        Due.spent(house, "a NAME", 0, 0, 0, 0, 0, 0);
        Due.tells(house, "head \\x:A.x;", "\\ 0\n");
        Due.spent(house, "\\", 0, 0, 0, 0, 0, 1);
        Due.tells(house, "head A->A;", "! 0\n");
        Due.spent(house, "!", 0, 0, 0, 0, 0, 1);
        Due.tells(house, "head g;head f c;head g c;head g c c;", "g 0\nf 1\ng 1\ng 2\n");
        Due.tells(house, "head ((((c))));", "c 0\n");
        Due.spent(house, "( )", 0, 0, 0, 0, 0, 0);
    }

    /** "(\ x : A . M) N, with what follows it, becomes M with N for x (B)" */
    private static void stepB() {
        House house = Due.house(BASE);
        Due.tells(house, "head (\\x:A.f x) c;", "f 1\n");
        Due.spent(house, "one B", 1, 0, 0, 2, 0, 5);
        Due.tells(house, "head (\\x:A.\\y:A.g y) c c c;", "g 2\n");
        Due.spent(house, "two B, and what follows", 2, 0, 0, 4, 0, 6 + 6 + 4 + 2);
        Due.tells(house, "head (\\x:A.\\y:A.y) c;", "\\ 0\n");
        Due.spent(house, "one B of two \\", 1, 0, 0, 1, 0, 6);
    }

    /** "let x := N in M becomes M with N for x (Z)" */
    private static void stepZ() {
        House house = Due.house(BASE);
        Due.tells(house, "head let x := c in f;", "f 0\n");
        Due.spent(house, "one Z", 0, 0, 1, 0, 0, 0);
        Due.tells(house, "head let x := c in let y := c in type;", "type 0\n");
        Due.spent(house, "two Z", 0, 0, 2, 0, 0, 0);
        Due.tells(house, "head (let k := g in k) c c;", "g 2\n");
        Due.spent(house, "Z with what follows", 0, 0, 1, 2, 1, 6);
        Due.tells(house, "head let x := let y := c in y in x;", "c 0\n");
        Due.spent(house, "Z of what is put", 0, 0, 2, 0, 2, 0);
    }

    /** "a NAME of the CONTEXT that has a VALUE becomes that (D)" */
    private static void stepD() {
        House house = Due.house(BASE + "d := c;e : A := d;i := \\x:A.x;n := \\x:A.f x;");
        Due.tells(house, "head d;", "c 0\n");
        Due.spent(house, "one D", 0, 1, 0, 0, 0, 0);
        Due.tells(house, "head e;", "c 0\n");
        Due.spent(house, "two D", 0, 2, 0, 0, 0, 0);
        Due.tells(house, "head i;", "\\ 0\n");
        Due.spent(house, "D to \\", 0, 1, 0, 0, 0, 0);
        Due.tells(house, "head n c;", "f 1\n");
        Due.spent(house, "D with what follows", 1, 1, 0, 2, 0, 2);
        Due.tells(house, "head i e;", "c 0\n");
        Due.spent(house, "D of what is put", 1, 3, 0, 1, 1, 2);
    }

    /** "M N .. : M comes to the front ...: one STEP (P) for each of them" */
    private static void stepP() {
        House house = Due.house(BASE);
        Due.tells(house, "head f c;", "f 1\n");
        Due.spent(house, "P of one", 0, 0, 0, 1, 0, 2);
        Due.tells(house, "head g c c;", "g 2\n");
        Due.spent(house, "P of two", 0, 0, 0, 2, 0, 6);
        Due.tells(house, "head (g c) c;", "g 2\n");
        Due.spent(house, "P of a USE in a USE", 0, 0, 0, 2, 0, 6);
        Due.tells(house, "head g (f (f c)) (f c);", "g 2\n");
        Due.spent(house, "P of what stands at the front alone", 0, 0, 0, 2, 0, 12);
    }

    /** "(those that stood behind it already cost nothing again)" */
    private static void behindItAlready() {
        House house = Due.house(BASE + "k := g c;");
        Due.tells(house, "head (\\x:A.g x) c c;", "g 2\n");
        Due.spent(house, "one stood behind", 1, 0, 0, 3, 0, 11);
        Due.tells(house, "head k c;", "g 2\n");
        Due.spent(house, "D to a USE", 0, 1, 0, 2, 0, 2);
        Due.tells(house, "head (let x := c in g x) c;", "g 2\n");
        Due.spent(house, "Z to a USE", 0, 0, 1, 2, 0, 6);
    }

    /** "A bound NAME at the front, for which a TERM is put ..., becomes that: one STEP (V)" */
    private static void stepV() {
        House house = Due.house(BASE);
        Due.tells(house, "head let x := c in x;", "c 0\n");
        Due.spent(house, "put by Z", 0, 0, 1, 0, 1, 0);
        Due.tells(house, "head (\\x:A.x) c;", "c 0\n");
        Due.spent(house, "put by B", 1, 0, 0, 1, 1, 3);
        Due.tells(house, "head let x := f c in x;", "f 1\n");
        Due.spent(house, "put, and a USE", 0, 0, 1, 1, 1, 2);
        Due.tells(house, "head let x := c in let y := x in let z := y in z;", "c 0\n");
        Due.spent(house, "V, and V again", 0, 0, 3, 0, 3, 0);
        Due.tells(house, "head let x := c in f x;", "f 1\n");
        Due.spent(house, "not at the front", 0, 0, 1, 1, 0, 2);
        Due.tells(house, "norm \\x:A.x;", "\\_0:A._0\n");
        Due.spent(house, "nothing is put", 0, 0, 0, 0, 0, 4);
    }

    /** "that TERM stands as it was written where it came from, its own bound NAMES being there ..." */
    private static void whereItWasWritten() {
        House house = Due.house(BASE);
        Due.tells(house, "norm let x := c in let y := x in let x := f c in y;", "c\n");
        Due.spent(house, "the outer x", 0, 0, 3, 0, 2, 3);
        Due.tells(house, "norm let x := c in let x := f x in f x;", "f (f c)\n");
        Due.tells(house, "norm \\y:A.(\\x:A.\\y:A.g x y) y;", "\\_0:A.\\_1:A.g _0 _1\n");
        Due.tells(house, "norm \\x:A.let y := x in \\x:A.g x y;", "\\_0:A.\\_1:A.g _1 _0\n");
        Due.tells(house, "norm (\\x:A.(\\f:A->A.f x) (\\y:A.g x y)) (f c);", "g (f c) (f c)\n");
    }

    /** "(It is worked out anew wherever it comes to the front." */
    private static void workedOutAnew() {
        House house = Due.house(BASE);
        Due.tells(house, "norm (\\x:A.g x x) (f c);", "g (f c) (f c)\n");
        Due.spent(house, "twice", 1, 0, 0, 5, 2, 16);
        Due.tells(house, "norm (\\x:A.c) (f (f c));", "c\n");
        Due.spent(house, "never", 1, 0, 0, 1, 0, 1 + 4 + 2 + 1);
    }

    private static void allTogether() {
        House house = Due.house(BASE + "d := f;");
        Due.tells(house, "head (\\k:A->A.let x := c in k x) d;", "f 1\n");
        Due.spent(house, "B, Z, P, V, D", 1, 1, 1, 2, 1, 4 + 2 + 3 + 1);
    }

    /** "a let that is judged": its NAME is put while types are NORMALIZED. */
    private static void judgedLets() {
        House house = Due.house(BASE);
        Due.tells(house, "check let t := A in \\x:t.x;", "!_0:A.A\n");
        Due.spent(house, "in a binder's type", 0, 0, 0, 0, 1, 4);
        Due.tells(house, "check let x := c in h x;", "P c\n");
        Due.spent(house, "in what is put", 0, 0, 0, 2, 2, 5);
        Due.tells(house, "check let t := A in let u := t in \\x:u.x;", "!_0:A.A\n");
        Due.spent(house, "one in another", 0, 0, 0, 0, 2, 4);
        Due.tells(house, "check let t := A in c;", "A\n");
        Due.spent(house, "not met", 0, 0, 0, 0, 0, 1);
    }

    /** "as N for x in a TYPE, 4." */
    private static void inTypes() {
        House house = Due.house(BASE);
        Due.tells(house, "check h c;", "P c\n");
        Due.spent(house, "h c", 0, 0, 0, 2, 1, 5);
        Due.tells(house, "check \\y:A.h y;", "!_0:A.P _0\n");
        Due.spent(house, "for which nothing is put", 0, 0, 0, 2, 1, 8);
        Due.tells(house, "check h (f c);", "P (f c)\n");
        Due.spent(house, "h (f c)", 0, 0, 0, 4, 1, 2 + 1 + 3 + 3);
    }

    /** A HEAD goes no deeper: what is in \ , in ! or behind a NAME stays as it is. */
    private static void noStepsInside() {
        House house = Due.house(BASE + "d := c;");
        Due.tells(house, "head \\x:A.(\\y:A.y) x;", "\\ 0\n");
        Due.spent(house, "in \\", 0, 0, 0, 0, 0, 4);
        Due.tells(house, "head g d (let x := d in x);", "g 2\n");
        Due.spent(house, "behind a NAME", 0, 0, 0, 2, 0, 6);
    }

    /** "A NAME in a TERM is what the innermost \ , ! or let around it that binds it tells, ..." */
    private static void namesBoundAgain() {
        House house = Due.house(BASE);
        Due.tells(house, "norm \\c:A.c;norm \\type:A.type;", "\\_0:A._0\n\\_0:A._0\n");
        Due.tells(house, "norm \\A:A.A;norm \\x:A.\\x:P x.x;", "\\_0:A._0\n\\_0:A.\\_1:P _0._1\n");
        Due.tells(house, "norm !x:A.!x:P x.A;norm let c := f c in c;", "!_0:A.!_1:P _0.A\nf c\n");
        Due.tells(house, "norm g ((\\c:A.c) (f c)) c;", "g (f c) c\n");
    }
}
