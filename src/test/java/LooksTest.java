/** Promises 9, 13 and 14: what is COMPARED, TOLD and NORMALIZED, and its LOOKS (part 3 of the Terms). */
public final class LooksTest {
    private static final String BASE =
        "A : type;c : A;f : A->A;g : A->A->A;P : A->type;h : !x:A.P x;R : (A->A)->A;F : type->type;";

    private LooksTest() {
    }

    public static void main(String[] args) {
        compareLeaves();
        compareSorts();
        compareBinders();
        compareNewNames();
        compareUses();
        overAtTheFirst();
        mThenN();
        tellBinders();
        tellArrows();
        tellManyBinders();
        tellUses();
        tellLooks();
        tellInOrder();
        normalizeAsTell();
        normalFormsAreTerms();
        normalFormsOfManyParts();
        normalFormsOfTheFirstText();
        Due.end();
    }

    /** "TO COMPARE M and N: one LOOK; M is brought to its HEAD, then N." */
    private static void compareLeaves() {
        House house = Due.house(BASE + "d := c;");
        Due.tells(house, "same c = c;", "yes\n");
        Due.spent(house, "c = c", 0, 0, 0, 0, 0, 1);
        Due.tells(house, "same c = A;", "no\n");
        Due.spent(house, "c = A", 0, 0, 0, 0, 0, 1);
        Due.tells(house, "same d = d;", "yes\n");
        Due.spent(house, "d = d", 0, 2, 0, 0, 0, 1);
        Due.tells(house, "same c = type;same type = c;same c = A->A;", "no\nno\nno\n");
        Due.tells(house, "same type = type;", "yes\n");
        Due.spent(house, "type = type", 0, 0, 0, 0, 0, 1);
    }

    /** "Both the same SORT or NAME" */
    private static void compareSorts() {
        House house = new House();
        house.corner(8);
        Due.equal("tables", Due.say(house, "sort a;sort b;sort t;axiom a : b;axiom b : t;"), 0);
        Due.tells(house, "same a = b;same b = b;same a = a;", "no\nyes\nyes\n");
        Due.tells(house, "x : a;y : a;same x = y;same x = x;", "no\nyes\n");
    }

    /** "Both \ , both ! : their first TERMS are COMPARED, then their second ones" */
    private static void compareBinders() {
        House house = Due.house(BASE);
        Due.tells(house, "same \\x:A.x = \\y:A.y;", "yes\n");
        Due.spent(house, "both \\", 0, 0, 0, 0, 0, 2 + 3);
        Due.tells(house, "same A->A = !y:A.A;", "yes\n");
        Due.spent(house, "both !", 0, 0, 0, 0, 0, 2 + 3);
        Due.tells(house, "same \\x:A.x = \\x:A.c;", "no\n");
        Due.spent(house, "the second differ", 0, 0, 0, 0, 0, 2 + 3);
        Due.tells(house, "same \\x:A.A = A->A;", "no\n");
        Due.spent(house, "\\ and !", 0, 0, 0, 0, 0, 2 + 1);
        Due.tells(house, "same f = \\x:A.f x;same \\x:A.f x = f;", "no\nno\n");
        Due.tells(house, "same !x:A.P x = !y:A.P (f y);same !x:A.P x = !y:A.P y;", "no\nyes\n");
    }

    /** "one new NAME being put for what both bind" */
    private static void compareNewNames() {
        House house = Due.house(BASE);
        Due.tells(house, "same \\x:A.\\y:A.x = \\y:A.\\x:A.y;", "yes\n");
        Due.tells(house, "same \\x:A.\\y:A.x = \\x:A.\\y:A.y;", "no\n");
        Due.tells(house, "same \\x:A.\\y:A.g x y = \\x:A.\\y:A.g y x;", "no\n");
        Due.tells(house, "same \\c:A.c = \\x:A.c;", "no\n");
        Due.tells(house, "same \\x:A.\\y:P x.\\z:A.x = \\z:A.\\y:P z.\\x:A.z;", "yes\n");
    }

    /** "with as many as each other that they are applied to: these, from the first on" */
    private static void compareUses() {
        House house = Due.house(BASE);
        Due.tells(house, "same g c c = (g c) c;", "yes\n");
        Due.spent(house, "all of them", 0, 0, 0, 4, 0, 12 + 3);
        Due.tells(house, "same g c = g c c;", "no\n");
        Due.spent(house, "more of the one", 0, 0, 0, 3, 0, 10 + 1);
        Due.tells(house, "same g c c = g c;same f c = f;", "no\nno\n");
        Due.tells(house, "same g c (f c) = g c (f c);same g (f c) c = g (f c) (f c);", "yes\nno\n");
        Due.tells(house, "same g c (f c) = g c c;", "no\n");
        Due.spent(house, "the last differ", 0, 0, 0, 5, 0, 8 + 6 + 3);
    }

    /** "at the first that is not it is over" */
    private static void overAtTheFirst() {
        House house = Due.house(BASE);
        Due.tells(house, "same g c c = g (f c) (f c);", "no\n");
        Due.spent(house, "the first of two", 0, 0, 0, 5, 0, 6 + 10 + 2);
        Due.tells(house, "same \\x:A.x = \\x:A->A.x;", "no\n");
        Due.spent(house, "the first TERMS", 0, 0, 0, 0, 0, 1 + 4 + 2);
        Due.tells(house, "same \\x:A.\\y:A.x = \\x:A.\\y:P x.x;", "no\n");
        Due.spent(house, "within the second", 0, 0, 0, 2, 0, 2 + 5 + 4);
    }

    /** M comes to its HEAD ahead of N: THE LIMIT shows it. */
    private static void mThenN() {
        House house = Due.house(BASE + "d := c;");
        for (int limit = 1; limit <= 4; limit++) {
            house.limit(limit);
            Due.faulty(house, "same d = let x := c in x;", limit < 4 ? 12 : 0, limit < 4 ? 0 : Due.NONE, limit / 4);
            Due.spent(house, "under " + limit, 0, limit > 1 ? 1 : 0, limit > 2 ? 1 : 0, 0, limit > 3 ? 1 : 0, 1);
        }
    }

    /** "\ _k:A.M , !_k:A.M (...; k in decimal: in how many second TERMS of \ and ! it stands; A in ( ) if ..." */
    private static void tellBinders() {
        House house = Due.house(BASE);
        Due.tells(house, "norm \\x:A.x;norm !x:A.A;", "\\_0:A._0\n!_0:A.A\n");
        Due.tells(house, "norm \\x:A->A.\\y:A.x y;", "\\_0:(!_0:A.A).\\_1:A._0 _1\n");
        Due.tells(house, "norm ((A->A)->A)->A;", "!_0:(!_0:(!_0:A.A).A).A\n");
        Due.tells(house, "norm A->(A->A)->A;", "!_0:A.!_1:(!_1:A.A).A\n");
        Due.tells(house, "norm P c->!x:A.P x;", "!_0:P c.!_1:A.P _1\n");
        Due.tells(house, "norm \\x:P c.R (\\y:A.g y y);", "\\_0:P c.R (\\_1:A.g _1 _1)\n");
        Due.tells(house, "norm \\x:(\\a:type.a->a) A.A->A;", "\\_0:(!_0:A.A).!_1:A.A\n");
    }

    /** "(A -> B is ! of a NAME that B has not.)" */
    private static void tellArrows() {
        House house = Due.house(BASE);
        Due.tells(house, "norm \\x:A.A->P x;norm !x:A.P x->P (f x);",
            "\\_0:A.!_1:A.P _0\n!_0:A.!_1:P _0.P (f _0)\n");
        Due.tells(house, "same A->P c = !x:A.P c;same A->P c = !c:A.P c;", "yes\nno\n");
    }

    private static void tellManyBinders() {
        House house = Due.house(BASE);
        StringBuilder text = new StringBuilder();
        StringBuilder told = new StringBuilder();
        for (int k = 0; k < 12; k++) {
            text.append("\\x").append(k).append(":A.");
            told.append("\\_").append(k).append(":A.");
        }
        Due.tells(house, "norm " + text + "g x9 x10;", told + "g _9 _10\n");
        Due.tells(house, "norm " + text + "g x0 x11;", told + "g _0 _11\n");
    }

    /** "a NAME ..., a blank and what it is applied to, one by one, each in ( ) if ..." */
    private static void tellUses() {
        House house = Due.house(BASE);
        Due.tells(house, "norm g c c;norm g (f c) c;norm g c (f c);", "g c c\ng (f c) c\ng c (f c)\n");
        Due.tells(house, "norm R f;norm R (\\x:A.x);norm R (g c);", "R f\nR (\\_0:A._0)\nR (g c)\n");
        Due.tells(house, "norm F A;norm F (A->A);norm F (P c);", "F A\nF (!_0:A.A)\nF (P c)\n");
        Due.tells(house, "norm \\x:A.f (f x);norm f (f (f c));", "\\_0:A.f (f _0)\nf (f (f c))\n");
        Due.tells(house, "norm f ((\\x:A.x) c);norm f (let x := f c in x);", "f c\nf (f c)\n");
        House own = new House();
        own.corner(8);
        Due.tells(own, "sort s;axiom s : s;rule s s s;G : s->s;norm G s;norm G (G s);", "G s\nG (G s)\n");
    }

    private static void tellLooks() {
        House house = Due.house(BASE);
        Due.tells(house, "norm c;", "c\n");
        Due.spent(house, "c", 0, 0, 0, 0, 0, 1);
        Due.tells(house, "norm g c c;", "g c c\n");
        Due.spent(house, "g c c", 0, 0, 0, 2, 0, 6 + 3);
        Due.tells(house, "norm A->A;", "!_0:A.A\n");
        Due.spent(house, "A->A", 0, 0, 0, 0, 0, 1 + 3);
        Due.tells(house, "norm \\x:A.f x;", "\\_0:A.f _0\n");
        Due.spent(house, "\\x:A.f x", 0, 0, 0, 1, 0, 3 + 4);
        Due.tells(house, "check f;", "!_0:A.A\n");
        Due.spent(house, "check f", 0, 0, 0, 0, 0, 3);
    }

    /** What is told ahead of each LOOK, as THE LIMIT cuts it: judging has 4 of them. */
    private static void tellInOrder() {
        String[] kept = {"", "", "f ", "f ", "f (f ", "f (f c)\n"};
        for (int i = 0; i < kept.length; i++) {
            House house = Due.house(BASE);
            house.limit(4 + i);
            Due.equal("limit " + (4 + i), Due.say(house, "norm f (f c);"), i < 5 ? 12 : 0);
            Due.holds(house, "limit " + (4 + i), kept[i]);
        }
        String[] types = {"!_0:", "!_0:(!_0:", "!_0:(!_0:A.", "!_0:(!_0:A.A).", "!_0:(!_0:A.A).A\n"};
        for (int i = 0; i < types.length; i++) {
            House house = Due.house(BASE);
            house.limit(i + 1);
            Due.equal("limit " + (i + 1), Due.say(house, "check R;"), i < 4 ? 12 : 0);
            Due.holds(house, "limit " + (i + 1), types[i]);
        }
    }

    /** "TO NORMALIZE M: as TO TELL it, with the same LOOKS and STEPS in the same order, but nothing is told" */
    private static void normalizeAsTell() {
        String[] terms = {
            "A", "A->A", "P ((\\x:A.f x) c)", "(\\a:type.a->a) A", "!x:A.P (f x)", "let t := A in t->t",
            "!x:P c.P (let y := c in g y y)", "d c->d (f c)"};
        for (String term : terms) {
            House told = Due.house(BASE + "d := P;");
            House normalized = Due.house(BASE + "d := P;");
            Due.equal("norm " + term, Due.say(told, "norm " + term + ";"), 0);
            int work = told.count(0);
            for (int limit = Math.max(1, work - 6); limit <= work; limit++) {
                told.limit(limit);
                normalized.limit(limit);
                int fault = limit < work ? 12 : 0;
                Due.equal("told under " + limit, Due.say(told, "norm " + term + ";"), fault);
                Due.equal("normalized under " + limit, Due.say(normalized, "x : " + term + ";"), fault);
                Due.holds(normalized, "x : " + term, "");
                for (int what = 0; what <= 6; what++) {
                    Due.equal(term + " count " + what, normalized.count(what), told.count(what));
                }
            }
        }
    }

    /** A NORMAL FORM that is met again has the P and LOOKS of any TERM, but none of what it was made by. */
    private static void normalFormsAreTerms() {
        House house = Due.house(BASE + "q : P ((\\x:A.x) c);d := c;");
        Due.equal("type(8)", house.type(8), 3);
        Due.holds(house, "type(8)", "P c");
        Due.spent(house, "type(8)", 0, 0, 0, 1, 0, 2);
        Due.tells(house, "check q;", "P c\n");
        Due.spent(house, "check q", 0, 0, 0, 1, 0, 2);
        Due.equal("r", Due.say(house, "r : P d := q;"), 0);
        Due.spent(house, "r", 0, 1, 0, 1 + 2, 0, 2 + 2 + 2);
        Due.equal("type(10)", house.type(10), 3);
        Due.spent(house, "type(10)", 0, 0, 0, 1, 0, 2);
    }

    private static void normalFormsOfManyParts() {
        House house = Due.house(BASE + "Q : A->A->(A->A)->type;q : Q c (f c) (\\x:A.f x);"
            + "k : !x:A.!y:A.Q y x (g x);");
        Due.tells(house, "check q;", "Q c (f c) (\\_0:A.f _0)\n");
        Due.tells(house, "check k c (f c);", "Q (f c) c (g c)\n");
        Due.tells(house, "check \\z:A.k z c;", "!_0:A.Q c _0 (g _0)\n");
    }

    /** New NAMES are others than all that a text binds, be these the first of the house's life. */
    private static void normalFormsOfTheFirstText() {
        Due.tells(new House(), "check \\a:type.\\f:!b:type.a->b.f;",
            "!_0:type.!_1:(!_1:type.!_2:_0._1).!_2:type.!_3:_0._2\n");
        Due.tells(new House(), "check \\a:type.\\f:!b:type.a->b.\\x:a.f a x;",
            "!_0:type.!_1:(!_1:type.!_2:_0._1).!_2:_0._0\n");
        String three = "!b:type.!d:type.!e:type.";
        String told = "!_1:type.!_2:type.!_3:type._0";
        Due.tells(new House(), "check \\a:type.\\x:" + three + "a.a;", "!_0:type.!_1:(" + told + ").type\n");
        Due.faulty(new House(), "check \\a:type.\\F:(" + three + "e)->a.\\x:" + three + "a.F x;", 11, 79, 0);
        Due.tells(new House(), "same \\a:type.!b:type.a->b = \\b:type.!a:type.b->a;", "yes\n");
        Due.tells(new House(), "same \\a:type.!b:type.a->b = \\b:type.!a:type.a->b;", "no\n");
    }
}
