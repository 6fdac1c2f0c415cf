/** Promises 3 and 4: the form of a TEXT, and the FAULTS 1 and 2 of a whole text. */
public final class FormTest {
    private static final String BASE = "A : type;c : A;f : A->A;g : A->A->A;";
    private static final String LONG = "abcdefghijklm";

    private FormTest() {
    }

    public static void main(String[] args) {
        statements();
        terms();
        wrongTokens();
        wrongTokensOfTables();
        endsTooSoon();
        withinForty();
        withinFortyOfFirstTerms();
        bracketsAndArrowsOfForty();
        atomsAreNoTerms();
        everyTermOfAStatement();
        deepFirstTokens();
        endWithinForty();
        oneAndTwoOfOneToken();
        firstThatIsMet();
        aheadOfAllElse();
        nothingIsDone();
        Due.end();
    }

    /** Each kind of STATEMENT, with what is in [ ] and without. */
    private static void statements() {
        House house = new House();
        Due.faulty(house, "sort s;axiom s : type;rule s s s;", 0, Due.NONE, 3);
        Due.faulty(house, BASE + "x := c;y : A := c;", 0, Due.NONE, 6);
        Due.tells(house, "check c;check c : A;norm x;head y;same x = y;", "A\nyes\nc\nc 0\nyes\n");
        Due.tells(house, "check (f c) : (A);same (f) c = f (c);", "yes\nyes\n");
    }

    private static void terms() {
        House house = Due.house(BASE);
        Due.tells(house, "norm \\x:A.f x;norm !x:A.A;norm let x := c in f x;",
            "\\_0:A.f _0\n!_0:A.A\nf c\n");
        Due.tells(house, "norm (A->A)->A;norm A->A->A;", "!_0:(!_0:A.A).A\n!_0:A.!_1:A.A\n");
        Due.tells(house, "norm A->!x:A.A->A;check \\x:A->A.x c;",
            "!_0:A.!_1:A.!_2:A.A\n!_0:(!_0:A.A).A\n");
        Due.tells(house, "norm g (f c) c;norm ((g) (f c)) ((c));", "g (f c) c\ng (f c) c\n");
        Due.tells(house, "norm let x:=let y:=c in f y in let y:=f x in g x y;", "g (f c) (f (f c))\n");
        Due.tells(house, "check let t:=A in \\x:t.x : A->A;", "yes\n");
        Due.tells(house, "z : let t := A in t := c;norm z;", "c\n");
    }

    /** "1 a token with which no text goes on ... (its first byte ...)" */
    private static void wrongTokens() {
        String[] texts = {
            "@;", "x@;", "x @= c;", "x : A := c @:= c;", "check c;@;", "check c d : A @= c;",
            "norm c @: A;", "norm c @:= A;", "head c @: A;", "same c @: A;", "same c@;", "head c @= c;",
            "check c : A @: A;", "check (@);", "check @;", "check (c@;", "check c@);", "check \\x@.x;",
            "check \\x@:=A.x;", "check \\@:A.x;", "check \\x:@.x;", "check \\x:A@,x;", "check !c:A c@;",
            "check !@!x:A.A;", "check let x @: A in x;", "check let x := c @. x;", "check let x := c@;",
            "check let x := @in x;", "check f @\\x:A.x;", "check f @!x:A.A;", "check f @let x := c in x;",
            "check A -> @;", "check @-> A;", "check A -> @-> A;", "check @in;", "check (c @: A);",
            "same c = c @= c;", "x : A := @;", "x := c @: A;", "@let x := c in x;", "@in;", "@(c);",
            "check @check c;", "check @: A;", "@: A;", "check c;@= c;", "norm c;@->", "norm @;norm c;"};
        for (String text : texts) {
            Due.faulty(Due.house(BASE), text.replace("@", ""), 1, text.indexOf('@'), 0);
        }
    }

    private static void wrongTokensOfTables() {
        String[] texts = {
            "sort @;", "sort @(a);", "sort a @b;", "sort a @: b;", "sort @:", "axiom @;", "axiom a @b;",
            "axiom a @:= b;", "axiom a : @;", "axiom a : b @c;", "axiom a : @(b);", "axiom @: b;", "rule @;",
            "rule a b@;", "rule a @: b;", "rule a b c @d;", "rule a b @(c);", "rule @-> b c;"};
        for (String text : texts) {
            Due.faulty(new House(), text.replace("@", ""), 1, text.indexOf('@'), 0);
        }
    }

    /** "the text's length where it ends too soon" */
    private static void endsTooSoon() {
        String[] texts = {
            "x", "x :", "x : A", "x : A :=", "x : A := c", "x :=", "x := c", "check", "check c", "check c ",
            "check c\n \n", "check c :", "check c : A", "check (c", "check (c)", "check \\", "check \\x",
            "check \\x:", "check \\x:A", "check \\x:A.", "check \\x:A.x", "check !", "check !x:A.", "check let",
            "check let x", "check let x :=", "check let x := c", "check let x := c in", "check A ->", "sort",
            "sort s", "axiom", "axiom a", "axiom a :", "axiom a : b", "rule", "rule a", "rule a b",
            "rule a b c", "same", "same c", "same c =", "same c = c", "norm", "head", "norm f (",
            "check c{ }", "norm c;check c"};
        for (String text : texts) {
            Due.faulty(Due.house(BASE), text, 1, text.length(), 0);
        }
    }

    /** "a TERM that would begin within 40 others": the 40th binder's first TERM, what is behind the 40th -> */
    private static void withinForty() {
        String[] opens = {"\\x:A.", "!x:A.", "let x:=c in ", "A->"};
        String[] inners = {"c", "A", "c", "A"};
        int[] firsts = {3, 3, 7, 3};
        for (int i = 0; i < opens.length; i++) {
            House house = Due.house(BASE);
            Due.equal("39 of " + opens[i], Due.say(house, nested(opens[i], 39, inners[i], "")), 0);
            int place = 5 + 39 * opens[i].length() + firsts[i];
            Due.faulty(Due.house(BASE), nested(opens[i], 40, inners[i], ""), 2, place, 0);
            Due.faulty(Due.house(BASE), nested(opens[i], 41, inners[i], ""), 2, place, 0);
        }
    }

    /** First TERMS. What is \ is no type: of 39 in one another the innermost is the first fault. */
    private static void withinFortyOfFirstTerms() {
        House house = Due.house(BASE);
        Due.equal("39 of !x:", Due.say(house, nested("!x:", 39, "A", ".A")), 0);
        Due.faulty(house, nested("!x:", 40, "A", ".A"), 2, 125, 0);
        Due.faulty(house, nested("\\x:", 39, "A", ".c"), 8, 5 + 38 * 3, 0);
        Due.faulty(house, nested("\\x:", 40, "A", ".c"), 2, 125, 0);
        Due.tells(Due.house(BASE), nested("let x:=", 39, "c", " in c"), "c\n");
        Due.faulty(Due.house(BASE), nested("let x:=", 40, "c", " in c"), 2, 285, 0);
    }

    private static void bracketsAndArrowsOfForty() {
        House house = Due.house(BASE);
        Due.tells(house, nested("(", 39, "c", ")"), "c\n");
        Due.faulty(house, nested("(", 40, "c", ")"), 2, 45, 0);
        String uses = Due.times("f (", 38) + "f c" + Due.times(")", 38) + "\n";
        Due.tells(house, nested("f (", 39, "c", ")"), uses);
        Due.faulty(Due.house(BASE), nested("f (", 40, "c", ")"), 2, 125, 0);
        Due.equal("39 to the left", Due.say(Due.house(BASE), nested("(", 38, "A->A", ")->A")), 0);
        Due.faulty(Due.house(BASE), nested("(", 39, "A->A", ")->A"), 2, 5 + 39 + 3, 0);
        Due.faulty(Due.house(BASE), nested("(", 39, "let x:=c in x", ")"), 2, 5 + 39 + 7, 0);
        Due.faulty(Due.house(BASE), nested("(", 39, "\\x:A.x", ")"), 2, 5 + 39 + 3, 0);
    }

    /** "a USE's ATOMS are no TERMS, what is in their ( ) is one" */
    private static void atomsAreNoTerms() {
        House house = Due.house(BASE);
        Due.tells(house, nested("(", 39, "g c c", ")"), "g c c\n");
        Due.faulty(house, nested("(", 39, "g c (c)", ")"), 2, 5 + 39 + 5, 0);
        Due.faulty(house, nested("(", 39, "(g) c c", ")"), 2, 5 + 39 + 1, 0);
        Due.tells(house, nested("(", 38, "g (f c) c", ")"), "g (f c) c\n");
        Due.faulty(house, "norm g" + Due.times(" c", 60) + ";", 10, 5, 0);
        Due.tells(house, "norm g" + Due.times(" (f c)", 2) + ";", "g (f c) (f c)\n");
    }

    private static void everyTermOfAStatement() {
        String open = Due.times("(", 39);
        String close = Due.times(")", 39);
        String c = open + "c" + close;
        String a = open + "A" + close;
        House house = Due.house(BASE);
        Due.tells(house, "check " + c + ":" + a + ";", "yes\n");
        Due.tells(house, "same " + c + "=" + c + ";", "yes\n");
        Due.tells(house, "x:" + a + ":=" + c + ";head " + c + ";y:=" + c + ";", "c 0\n");
        Due.faulty(Due.house(BASE), "check c:(" + a + ");", 2, 48, 0);
        Due.faulty(Due.house(BASE), "check (" + c + "):A;", 2, 46, 0);
        Due.faulty(Due.house(BASE), "same c=(" + c + ");", 2, 47, 0);
        Due.faulty(Due.house(BASE), "same (" + c + ")=c;", 2, 45, 0);
        Due.faulty(Due.house(BASE), "x:(" + a + ");", 2, 42, 0);
        Due.faulty(Due.house(BASE), "x:A:=(" + c + ");", 2, 45, 0);
        Due.faulty(Due.house(BASE), "x:=(" + c + ");", 2, 43, 0);
        Due.faulty(Due.house(BASE), "head (" + c + ");", 2, 45, 0);
    }

    /** "its first token, whatever that is" */
    private static void deepFirstTokens() {
        String open = "norm " + Due.times("(", 40);
        String[] tokens = {
            "c", "(", "\\", "!", "let", ")", ";", ":", ".", "=", ",", ":=", "->", "in", "check", LONG};
        for (String token : tokens) {
            Due.faulty(Due.house(BASE), open + " " + token, 2, 46, 0);
            Due.faulty(Due.house(BASE), open + "{(}" + token + " c;", 2, 48, 0);
        }
    }

    /** "(the end is none)" */
    private static void endWithinForty() {
        String open = "norm " + Due.times("(", 40);
        Due.faulty(Due.house(BASE), open, 1, 45, 0);
        Due.faulty(Due.house(BASE), open + " \n", 1, 47, 0);
        Due.faulty(Due.house(BASE), open + "{c}", 1, 48, 0);
    }

    /** "1 and 2 of one token: 2": long NAMES where no text goes on with a NAME. */
    private static void oneAndTwoOfOneToken() {
        String[] texts = {
            "x @;", "norm c;sort s @;", "axiom type @;", "rule type type type @;", "norm \\x @;",
            "norm let x @ c;", "check @", "norm \\@", "check \\x:A @;"};
        for (String text : texts) {
            Due.faulty(Due.house(BASE), text.replace("@", LONG), 2, text.indexOf('@'), 0);
        }
    }

    /** "the first that is met along it" */
    private static void firstThatIsMet() {
        House house = Due.house(BASE);
        Due.faulty(house, "norm #;norm " + LONG + ";", 1, 5, 0);
        Due.faulty(house, "norm " + LONG + ";norm #;", 2, 5, 0);
        Due.faulty(house, "x = " + LONG + ";", 1, 2, 0);
        Due.faulty(house, "norm (c) : " + LONG + ";", 1, 9, 0);
        Due.faulty(house, "norm " + LONG + ";norm {", 2, 5, 0);
        Due.faulty(house, "norm ;{", 1, 5, 0);
        Due.faulty(house, "norm " + Due.times("(", 40) + LONG + ";", 2, 45, 0);
        Due.faulty(house, "norm " + LONG + Due.times("(", 50) + "c;", 2, 5, 0);
        Due.faulty(house, "norm " + Due.times("(", 39) + ")" + Due.times("(", 9), 1, 44, 0);
        Due.faulty(house, "norm " + Due.times("(", 50) + "#", 2, 45, 0);
    }

    /** "FAULTS of a whole text, ahead of all else": a later 1 or 2 is told, not an earlier 3 to 12. */
    private static void aheadOfAllElse() {
        String[] texts = {
            "norm nix;", "A : type;", "sort s;", "norm kind;", "norm !x:c.A;", "norm c c;", "norm f f;",
            "norm g c c;"};
        int[] faults = {3, 4, 6, 7, 8, 10, 11, 12};
        int[] places = {5, 0, 0, 5, 8, 5, 7, 0};
        for (int i = 0; i < texts.length; i++) {
            House house = Due.house(BASE);
            house.limit(faults[i] == 12 ? 2 : 5000);
            Due.faulty(house, texts[i], faults[i], places[i], 0);
            Due.faulty(house, texts[i] + "#", 1, texts[i].length(), 0);
            Due.faulty(house, texts[i] + "norm " + LONG + ";", 2, texts[i].length() + 5, 0);
        }
    }

    /** "(nothing is done then)" */
    private static void nothingIsDone() {
        House house = new House();
        Due.tells(house, "check type->type;", "kind\n");
        int[] before = new int[14];
        for (int what = 0; what < before.length; what++) {
            before[what] = house.count(what);
        }
        Due.faulty(house, "sort s;axiom kind : s;rule s s s;x : type;y := x;norm x;check", 1, 61, 0);
        Due.holds(house, "OUT", "");
        Due.faulty(house, "sort s;axiom kind : s;rule s s s;x : type;y := x;norm " + LONG, 2, 54, 0);
        for (int what = 0; what < before.length; what++) {
            Due.equal("count " + what, house.count(what), before[what]);
        }
    }

    private static String nested(String open, int n, String inner, String close) {
        return "norm " + Due.times(open, n) + inner + Due.times(close, n) + ";";
    }
}
