/** Promises 3 and 4: TOKENS, the form of a TEXT, and its FAULTS 1 and 2. */
public final class ReadingTest {
    private static final String BASE = "A : type;c : A;f : A->A;g : A->A->A;";

    private ReadingTest() {
    }

    public static void main(String[] args) {
        tokens();
        tapeBehindTheText();
        statements();
        wrongTokens();
        endsTooSoon();
        longNames();
        deepTerms();
        deepFirstTokens();
        nothingIsDone();
        Due.end();
    }

    private static void tokens() {
        PureHouse house = Due.house(BASE);
        Due.tells(house, "", "");
        Due.tells(house, " \n {check ; \t {\u00ff} ", "");
        Due.tells(house, "norm{}c;", "c\n");
        Due.tells(house, "norm\nf{ f }c ;", "f c\n");
        Due.tells(house, "x':=c;x'1b:=x';norm x'1b;", "c\n");
        Due.tells(house, "letx:=c;check1:A;norm letx;norm check1;", "c\ncheck1\n");
        Due.tells(house, "norm\\x:A.x;", "\\_0:A._0\n");
        Due.tells(house, "zZaA09 : A;Zz : A;norm zZaA09;norm Zz;", "zZaA09\nZz\n");
        Due.tells(house, "Abcdefghijkl : A;norm Abcdefghijkl;", "Abcdefghijkl\n");
    }

    /** What stands on the tape behind the text's end is no part of it. */
    private static void tapeBehindTheText() {
        String tape = "norm c;{a}x:=cc;A->A";
        int[] lengths = {6, 7, 8, 9, 12, 14, 15, 16, 17, 18};
        int[] faults = {1, 0, 1, 1, 1, 1, 1, 3, 1, 1};
        int[] places = {6, PureHouse.NONE, 7, 7, 12, 14, 15, 13, 17, 17};
        for (int i = 0; i < lengths.length; i++) {
            PureHouse house = Due.house(BASE);
            int[] four = new int[5];
            for (int k = 0; k < 20; k++) {
                four[k / 4] = four[k / 4] << 8 | tape.charAt(k);
            }
            house.feed(four[0], four[1], four[2], four[3], four[4]);
            Due.equal("text " + lengths[i], house.text(lengths[i]), faults[i]);
            Due.equal("place " + lengths[i], house.fault(1), places[i]);
        }
    }

    private static void statements() {
        PureHouse house = Due.house(BASE);
        Due.tells(house, "check (\\x:A.x);check f:A->A;", "!_0:A.A\nyes\n");
        Due.tells(house, "check A->A->A;check (A->A)->A;", "type\ntype\n");
        Due.tells(house, "norm (A->A)->A;norm A->A->A;", "!_0:(!_0:A.A).A\n!_0:A.!_1:A.A\n");
        Due.tells(house, "norm g (f c) c;norm ((g) (f c)) ((c));", "g (f c) c\ng (f c) c\n");
        Due.tells(house, "norm let x:=c in let y:=f x in g x y;", "g c (f c)\n");
        Due.tells(house, "same f c=f c;same c = f c;", "yes\nno\n");
        Due.tells(house, "head \\x:A.x;head A->A;head g c;head type;", "\\ 0\n! 0\ng 1\ntype 0\n");
    }

    private static void wrongTokens() {
        String[] texts = {
            ";", "x;", "x = c;", "x : A := c := c;", "check c;;", "check c d : A = c;", "norm c : A;",
            "same c : A;", "same c;", "head c = c;", "check ();", "check (c;", "check c);", "check \\x.x;",
            "check \\x:=A.x;", "check \\x:A,x;", "check !c:A c;", "check let x : A in x;",
            "check let x := c . x;", "check f \\x:A.x;", "check f let;", "check A -> ;", "check A - > A;",
            "check in;", "sort check;", "sort (a);", "axiom a b;", "axiom a : b c;", "rule a b;",
            "rule a : b;", "let x := c in x;", "in;", "check c, c;", "check 1;", "check c 1;", "check 'c;",
            "check c\t;", "check c;\u00e9", "check c;}", "check c;{}#", "x : = c;", "check \u0000;",
            "check f >c;", "check c;->"};
        int[] places = {
            0, 1, 2, 11, 8, 14, 7, 7, 6, 7, 7, 8, 7, 8, 8, 10, 12, 12, 17, 8, 8, 11, 8, 6, 5, 5, 8, 12, 8,
            7, 0, 0, 7, 6, 8, 6, 7, 8, 8, 10, 4, 6, 8, 8};
        for (int i = 0; i < texts.length; i++) {
            Due.faulty(Due.house(BASE), texts[i], 1, places[i], 0);
        }
    }

    private static void endsTooSoon() {
        String[] texts = {
            "x", "x :", "x : A", "x : A :=", "x :=", "check", "check c", "check c ", "check c :", "check (c",
            "check \\", "check \\x", "check \\x:A.", "check let x", "check let x := c in", "check A ->",
            "sort", "axiom a", "axiom a :", "rule a b", "same c", "same c =", "check c{ }"};
        for (String text : texts) {
            Due.faulty(Due.house(BASE), text, 1, text.length(), 0);
        }
        Due.faulty(Due.house(BASE), "check c {;", 1, 8, 0);
        Due.faulty(Due.house(BASE), "check c; {", 1, 9, 0);
        Due.faulty(Due.house(BASE), "{a} {{}{", 1, 7, 0);
    }

    private static void longNames() {
        PureHouse house = Due.house(BASE);
        Due.faulty(house, "check Abcdefghijklm;", 2, 6, 0);
        Due.faulty(house, "abcdefghijklm : A;", 2, 0, 0);
        Due.faulty(house, "check c;sort a'123456789012;", 2, 13, 0);
        Due.faulty(house, "x abcdefghijklm;", 2, 2, 0);
        Due.faulty(house, "check \\abcdefghijklm:A.c;", 2, 7, 0);
        Due.faulty(house, "check c : A abcdefghijklm", 2, 12, 0);
        Due.faulty(house, "x = abcdefghijklm;", 1, 2, 0);
        Due.tells(house, "check c;{abcdefghijklm}", "A\n");
    }

    private static void deepTerms() {
        Due.tells(Due.house(BASE), nested("(", 39, "c", ")"), "c\n");
        Due.faulty(Due.house(BASE), nested("(", 40, "c", ")"), 2, 45, 0);
        String uses = Due.times("f (", 38) + "f c" + Due.times(")", 38) + "\n";
        Due.tells(Due.house(BASE), nested("f (", 39, "c", ")"), uses);
        Due.faulty(Due.house(BASE), nested("f (", 40, "c", ")"), 2, 125, 0);
        Due.equal("39 arrows", Due.say(Due.house(BASE), nested("A->", 39, "A", "")), 0);
        Due.faulty(Due.house(BASE), nested("A->", 40, "A", ""), 2, 125, 0);
        Due.equal("39 binders", Due.say(Due.house(BASE), nested("\\x:A.", 39, "x", "")), 0);
        Due.faulty(Due.house(BASE), nested("\\x:A.", 40, "x", ""), 2, 203, 0);
        Due.faulty(Due.house(BASE), nested("\\x:A.", 39, "\\x:A.x", ""), 2, 203, 0);
        Due.equal("39 lets", Due.say(Due.house(BASE), nested("let x:=c in ", 39, "x", "")), 0);
        Due.faulty(Due.house(BASE), nested("let x:=c in ", 40, "x", ""), 2, 480, 0);
        Due.faulty(Due.house(BASE), "norm g" + Due.times(" c", 60) + ";", 10, 5, 0);
    }

    private static void deepFirstTokens() {
        String open = "norm " + Due.times("(", 40);
        Due.faulty(Due.house(BASE), open, 1, 45, 0);
        Due.faulty(Due.house(BASE), open + "  ", 1, 47, 0);
        for (String first : new String[] {")", ";", "'", "1", "#", "->", "check", "(", "abcdefghijklm", "{"}) {
            Due.faulty(Due.house(BASE), open + " " + first, 2, 46, 0);
        }
    }

    private static void nothingIsDone() {
        PureHouse house = Due.house(BASE);
        Due.say(house, "norm f c;");
        int work = house.count(0);
        int life = house.count(7);
        Due.faulty(house, "d : A;norm d;check", 1, 18, 0);
        Due.equal("names", house.count(8), 4);
        Due.equal("work is of the latest statement", house.count(0), work);
        Due.equal("life", house.count(7), life);
        Due.equal("outs", house.outs(), 0);
    }

    private static String nested(String open, int n, String inner, String close) {
        return "norm " + Due.times(open, n) + inner + Due.times(close, n) + ";";
    }
}
