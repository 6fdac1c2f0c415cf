/** Promise 3: the TOKENS of a TEXT (part 2 of the Terms), and what is none. */
public final class TokensTest {
    private static final String BASE = "A : type;c : A;f : A->A;g : A->A->A;";
    private static final String[] WORDS = {
        "sort", "axiom", "rule", "check", "norm", "same", "head", "let", "in"};

    private TokensTest() {
    }

    public static void main(String[] args) {
        blanks();
        noBlanks();
        comments();
        openComments();
        strayEndOfComment();
        firstSigns();
        laterSigns();
        wrongLaterSigns();
        namesUpToTwelveSigns();
        namesOfThirteenSigns();
        wordsAreNoNames();
        nearlyWords();
        asLongAsCanBe();
        twoThatStandTogether();
        signsOfNoText();
        behindTheTextsEnd();
        tokensOfOneByteEach();
        Due.end();
    }

    /** "with blanks (10, 32) between as one likes" */
    private static void blanks() {
        House house = Due.house(BASE);
        Due.tells(house, " ", "");
        Due.tells(house, "\n", "");
        Due.tells(house, "norm g c c;norm c;", "g c c\nc\n");
        Due.tells(house, "\n norm\n\ng  c \nc\n;\n \nnorm c ; ", "g c c\nc\n");
        Due.tells(house, "norm(f)(c);check f:A->A;same\nc=c;", "f c\nyes\nyes\n");
        Due.tells(house, "norm \\ x : A . x ;", "\\_0:A._0\n");
        Due.tells(house, "norm\\x:A.x;", "\\_0:A._0\n");
    }

    private static void noBlanks() {
        for (int sign : new int[] {0, 9, 11, 12, 13, 31, 127, 128, 138, 160, 255}) {
            House house = Due.house(BASE);
            Due.faulty(house, "norm c" + (char) sign + ";", 1, 6, 0);
            Due.faulty(house, "norm c; " + (char) sign, 1, 8, 0);
        }
    }

    /** "{ } around what counts for nothing (up to the next } ; none within)" */
    private static void comments() {
        House house = Due.house(BASE);
        Due.tells(house, "{}", "");
        Due.tells(house, "{check (}norm{}c{;}; {}{ }", "c\n");
        Due.tells(house, "norm{ in norm }g{c\n}c{#'0\u00ff\u0000\t}c;", "g c c\n");
        Due.tells(house, "{{}norm c;{ { {}", "c\n");
        Due.tells(house, "norm c;{abcdefghijklmnop}", "c\n");
        Due.faulty(house, "{{}}norm c;", 1, 3, 0);
        Due.faulty(house, "norm no{}rm;", 3, 5, 0);
        Due.faulty(house, "x:{}=c;", 1, 4, 0);
        Due.faulty(house, "norm A-{}>A;", 1, 6, 0);
        Due.faulty(house, "norm c{}1;", 1, 8, 0);
    }

    /** "an open { : its place" */
    private static void openComments() {
        House house = Due.house(BASE);
        Due.faulty(house, "{", 1, 0, 0);
        Due.faulty(house, "norm c;{", 1, 7, 0);
        Due.faulty(house, "norm c{;", 1, 6, 0);
        Due.faulty(house, "norm c {; norm c;", 1, 7, 0);
        Due.faulty(house, "{a} {{}{{", 1, 7, 0);
        Due.faulty(house, "norm # {", 1, 5, 0);
    }

    private static void strayEndOfComment() {
        House house = Due.house(BASE);
        Due.faulty(house, "}", 1, 0, 0);
        Due.faulty(house, "norm c;}", 1, 7, 0);
        Due.faulty(house, "norm }c;", 1, 5, 0);
    }

    /** "NAMES (a letter a .. z, A .. Z, then ...": the edges of both, and their neighbours */
    private static void firstSigns() {
        House house = Due.house(BASE);
        for (char sign : new char[] {'a', 'z', 'Z', 'M', 'm'}) {
            Due.equal("" + sign, Due.say(house, sign + " : A;"), 0);
        }
        Due.tells(house, "norm a;norm z;norm Z;norm A;", "a\nz\nZ\nA\n");
        for (char sign : new char[] {'@', '[', '`', '_', '/', '0', '9', '\'', '|', '"', '~', '\u00e9'}) {
            House other = Due.house(BASE);
            Due.faulty(other, "norm " + sign + ";", 1, 5, 0);
            Due.faulty(other, "norm f " + sign + "c;", 1, 7, 0);
        }
    }

    /** "then letters, digits, ' " */
    private static void laterSigns() {
        House house = Due.house(BASE);
        Due.tells(house, "aazAZ09' : A;norm aazAZ09';", "aazAZ09'\n");
        Due.tells(house, "c':A;c'':A;c0:A;C:A;norm c';norm c'';norm c0;norm C;", "c'\nc''\nc0\nC\n");
        Due.tells(house, "x9:=c';same x9=c';same x9=c;", "yes\nno\n");
        Due.faulty(house, "norm c0';", 3, 5, 0);
    }

    private static void wrongLaterSigns() {
        for (char sign : new char[] {'@', '[', '`', '_', '/', '&', '-', '>', '"', '\u00e9'}) {
            Due.faulty(Due.house(BASE), "norm c" + sign + ";", 1, 6, 0);
        }
        House house = Due.house(BASE);
        Due.faulty(house, "norm c 'c;", 1, 7, 0);
        Due.faulty(house, "norm (c)1;", 1, 8, 0);
        Due.faulty(house, "norm f\n0c;", 1, 7, 0);
    }

    /** "at most 12 signs" */
    private static void namesUpToTwelveSigns() {
        House house = Due.house(BASE);
        Due.tells(house, "Abcdefghijk : A;norm Abcdefghijk;", "Abcdefghijk\n");
        Due.tells(house, "Abcdefghijkl : A;norm Abcdefghijkl;", "Abcdefghijkl\n");
        Due.tells(house, "Abcdefghijk' := c;norm Abcdefghijk';", "c\n");
        Due.tells(house, "norm \\abcdefghij12:A.abcdefghij12;", "\\_0:A._0\n");
        Due.equal("12 signs", house.name(5, 2), 12);
    }

    /** "2 a NAME of 13 signs or more", wherever it stands */
    private static void namesOfThirteenSigns() {
        String name = "Abcdefghijklm";
        String[] texts = {
            "@ : A;", "norm @;", "norm f @;", "sort @;", "axiom @ : kind;", "axiom type : @;",
            "rule type @ type;", "norm \\@:A.c;", "norm !@:A.A;", "norm let @ := c in c;", "check c : @;",
            "same c = @;", "x := @;", "norm A->@;", "norm (@);"};
        for (String text : texts) {
            House house = Due.house(BASE);
            Due.faulty(house, text.replace("@", name), 2, text.indexOf('@'), 0);
            Due.faulty(house, text.replace("@", name + "1"), 2, text.indexOf('@'), 0);
        }
        House house = Due.house(BASE);
        Due.faulty(house, "norm " + Due.times("a'", 200) + ";", 2, 5, 0);
        Due.faulty(house, "norm checkchecknor;", 2, 5, 0);
    }

    /** "WORDS that are no NAMES: sort axiom rule check norm same head let in" */
    private static void wordsAreNoNames() {
        for (String word : WORDS) {
            House house = Due.house(BASE);
            Due.faulty(house, "norm \\" + word + ":A.c;", 1, 6, 0);
            Due.faulty(house, "sort " + word + ";", 1, 5, 0);
            Due.faulty(house, "norm f " + word + ";", 1, 7, 0);
            Due.faulty(house, "norm let " + word + " := c in c;", 1, 9, 0);
        }
    }

    private static void nearlyWords() {
        for (String word : WORDS) {
            String longer = word + "'";
            String other = word.substring(0, 1).toUpperCase() + word.substring(1);
            String shorter = word.substring(0, word.length() - 1);
            String text = longer + " : A;" + other + " : A;" + shorter + " : A;" + word + "1 : A;"
                + "s" + word + " : A;";
            Due.equal(text, Due.say(Due.house(BASE), text), 0);
        }
        House house = Due.house(BASE);
        Due.tells(house, "i : A;inn : A;norm g i inn;", "g i inn\n");
        Due.tells(house, "sorta : A;sortaxiom : A;norm g sorta sortaxiom;", "g sorta sortaxiom\n");
    }

    /** "TOKENS, each as long as can be" */
    private static void asLongAsCanBe() {
        House house = Due.house(BASE);
        Due.tells(house, "letx:=c;check1:A;norm letx;norm check1;", "c\ncheck1\n");
        Due.faulty(house, "normc;", 1, 5, 0);
        Due.faulty(house, "check let x:=c inx;", 1, 18, 0);
        Due.faulty(house, "norm fc;", 3, 5, 0);
        Due.tells(house, "norm let x:=c in(x);", "c\n");
    }

    /** ":= and -> (two that stand together are one)" */
    private static void twoThatStandTogether() {
        House house = Due.house(BASE);
        Due.tells(house, "x:=c;norm x;norm A->A;", "c\n!_0:A.A\n");
        Due.faulty(house, "y : = c;", 1, 4, 0);
        Due.faulty(house, "y::=c;", 1, 2, 0);
        Due.faulty(house, "y:==c;", 1, 3, 0);
        Due.faulty(house, "norm \\y:=A.y;", 1, 7, 0);
        Due.faulty(house, "same c:=c;", 1, 6, 0);
        Due.faulty(house, "norm A - > A;", 1, 7, 0);
        Due.faulty(house, "norm A-A;", 1, 6, 0);
        Due.faulty(house, "norm A>A;", 1, 6, 0);
        Due.faulty(house, "norm A->>A;", 1, 8, 0);
        Due.faulty(house, "norm A-->A;", 1, 6, 0);
    }

    /** A , is a token, but no text goes on with it; other signs are none. */
    private static void signsOfNoText() {
        for (char sign : new char[] {',', '#', '*', '+', '?', '<', '^', '$', '%', '&', ']', '|', '~'}) {
            House house = Due.house(BASE);
            Due.faulty(house, "norm c" + sign + "c;", 1, 6, 0);
            Due.faulty(house, "norm c;" + sign, 1, 7, 0);
            Due.faulty(house, sign + "norm c;", 1, 0, 0);
        }
    }

    /** The tape goes on behind the text's end, but no token does. */
    private static void behindTheTextsEnd() {
        String tape = "norm c;{a}x:=cc;A->A";
        int[] lengths = {6, 7, 8, 9, 10, 12, 14, 15, 16, 17, 18};
        int[] faults = {1, 0, 1, 1, 0, 1, 1, 1, 3, 1, 1};
        int[] places = {6, Due.NONE, 7, 7, Due.NONE, 12, 14, 15, 13, 17, 17};
        for (int i = 0; i < lengths.length; i++) {
            House house = Due.house(BASE);
            Due.feed(house, tape);
            Due.equal("text " + lengths[i], house.text(lengths[i]), faults[i]);
            Due.equal("place " + lengths[i], house.fault(1), places[i]);
        }
        House house = Due.house(BASE);
        Due.feed(house, "norm abcdefghijklm;");
        Due.equal("12 of 13 signs", house.text(17), 1);
        Due.equal("its place", house.fault(1), 17);
        Due.feed(house, "norm abcdefghijklm;");
        Due.equal("13 of 13 signs", house.text(18), 2);
        Due.equal("its place", house.fault(1), 5);
    }

    /** "the text's length where it ends too soon": of a full tape with a token in every byte, too. */
    private static void tokensOfOneByteEach() {
        String most = Due.times("s:t;", 999);
        Due.faulty(new House(), most + "s:t;", 3, 2, 0);
        Due.faulty(new House(), most + "s:t=", 1, 3999, 0);
        Due.faulty(new House(), most + "s:t(", 1, 4000, 0);
        Due.faulty(new House(), most + "s:(", 1, 3999, 0);
    }
}
