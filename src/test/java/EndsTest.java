/** The FAULTS 12, 13 and 14 (promises 3, 4, 6, 9, 13, 14): where WORK ends, and their order. */
public final class EndsTest {
    private static final String BASE = "A : type;c : A;f : A->A;g : A->A->A;P : A->type;h : !x:A.P x;";
    /** Uses of f in one another: t has ten of them, u nine, v eight, w seven. */
    private static final String MANY = uses("t", 10) + uses("u", 9) + uses("v", 8) + uses("w", 7);
    /** A head that takes far more WORK than any limit leaves. */
    private static final String BURNT = "head e (e (e (e i))) c;";
    private static final String BURNING =
        "A : type;c : A;f : A->A;e := \\k:A->A.\\x:A.k(k(k(k(k(k(k(k(k(k x)))))))));i := \\x:A.x;";
    private static final int LIFE = 60000;

    private EndsTest() {
    }

    public static void main(String[] args) {
        everyStepUnderTheLimit();
        everyStatementHasItsLimit();
        lowestAndHighestLimit();
        placesOfTwelve();
        nothingStaysOfIt();
        limitOfTypeAndSame();
        deepTold();
        deepCompared();
        deepNormalized();
        deepBinders();
        deepUsesInTypes();
        deepTypes();
        placesOfThirteen();
        deepAheadOfTheLimit();
        deepAheadOfLife();
        lifeIsUsedUp();
        lifeFallsShort();
        outOfFourteen();
        limitAheadOfLife();
        lifeOutlivesCorners();
        Due.end();
    }

    private static String uses(String name, int n) {
        return name + " := \\x:A." + Due.times("f (", n - 1) + "f x" + Due.times(")", n - 1) + ";";
    }

    /** 90 uses of f around the last, so that there are 100 with t, 99 with u. */
    private static String deep(String last) {
        return nest("t", last, "c");
    }

    private static String nest(String tens, String last, String inner) {
        return Due.times(tens + " (", 9) + last + " " + inner + Due.times(")", 9);
    }

    /** "12 when its WORK would be more than THE LIMIT"; "(the one for which it ended by 12 ... is not done, ..." */
    private static void everyStepUnderTheLimit() {
        for (int limit = 1; limit <= 8; limit++) {
            House house = Due.house(BASE);
            house.limit(limit);
            int life = house.count(7);
            boolean fits = limit >= 7;
            Due.faulty(house, " norm (\\x:A.x) c;", fits ? 0 : 12, fits ? Due.NONE : 1, fits ? 1 : 0);
            Due.spent(house, "under " + limit, limit > 5 ? 1 : 0, 0, 0, limit > 4 ? 1 : 0, limit > 6 ? 1 : 0,
                Math.min(limit, 4));
            Due.equal("life under " + limit, house.count(7), life + Math.min(limit, 7));
        }
        for (int limit = 1; limit <= 4; limit++) {
            House house = Due.house(BASE + "d := c;");
            house.limit(limit);
            Due.equal("under " + limit, Due.say(house, "norm let x := d in x;"), limit < 4 ? 12 : 0);
            Due.spent(house, "under " + limit, 0, limit > 3 ? 1 : 0, limit > 1 ? 1 : 0, 0, limit > 2 ? 1 : 0, 1);
        }
    }

    private static void everyStatementHasItsLimit() {
        House house = Due.house(BASE);
        house.limit(2);
        Due.tells(house, "x := f c;y := f c;z := f c;norm c;norm c;norm c;", "c\nc\nc\n");
        Due.faulty(house, "norm c;norm f c;norm c;", 12, 7, 1);
    }

    /** Promise 6: THE LIMIT is 1 .. 20,000. */
    private static void lowestAndHighestLimit() {
        House house = Due.house(BURNING);
        int life = house.count(7);
        house.limit(1);
        Due.faulty(house, "norm c;norm i;", 12, 7, 1);
        Due.spent(house, "under 1", 0, 0, 0, 0, 0, 1);
        house.limit(20000);
        Due.faulty(house, BURNT, 12, 0, 0);
        Due.equal("under 20,000", house.count(0), 20000);
        Due.equal("life", house.count(7), life + 2 + 20000);
    }

    /** "all at the STATEMENT's first token" */
    private static void placesOfTwelve() {
        String[] texts = {
            "norm f (f c);", "head f (f c);", "check f (f c);", "check f (f c) : A;", "same f (f c) = c;",
            "same c = f (f c);", "x := f (f c);", "x : A := f (f c);", "x : P (f (f c));"};
        for (String text : texts) {
            House house = Due.house(BASE);
            house.limit(3);
            Due.faulty(house, "{} " + text, 12, 3, 0);
            Due.faulty(house, "norm c;\n" + text + "norm c;", 12, 8, 1);
        }
    }

    /** "of that STATEMENT nothing but OUT", "OUT keeps what was put out" */
    private static void nothingStaysOfIt() {
        House house = Due.house(BASE);
        house.limit(5);
        Due.faulty(house, "check c;x : A;y : A := f (f c);z : A;", 12, 14, 2);
        Due.holds(house, "check c", "A\n");
        Due.equal("x stays, y is not there", house.count(8), 7);
        Due.faulty(house, "norm c;norm f (f c);norm c;", 12, 7, 1);
        Due.holds(house, "norm f (f c)", "c\n");
        house.limit(7);
        Due.faulty(house, "norm c;norm f (f c);norm c;", 12, 7, 1);
        Due.holds(house, "norm f (f c)", "c\nf ");
    }

    /** Promises 13 and 14: "- 12 ... as of a STATEMENT (OUT keeps what was told)", "likewise" */
    private static void limitOfTypeAndSame() {
        House house = Due.house(BASE + "q : P (f c);d := f c;e := f (f c);");
        house.limit(1);
        Due.equal("type", house.type(6), -12);
        Due.holds(house, "type under 1", "");
        Due.spent(house, "type under 1", 0, 0, 0, 0, 0, 1);
        house.limit(2);
        Due.equal("type", house.type(6), -12);
        Due.holds(house, "type under 2", "P ");
        Due.spent(house, "type under 2", 0, 0, 0, 1, 0, 1);
        Due.equal("same", house.same(7, 8), -12);
        Due.spent(house, "same under 2", 0, 1, 0, 0, 0, 1);
        Due.holds(house, "same leaves OUT", "P ");
        house.limit(4);
        Due.equal("type", house.type(6), -12);
        Due.holds(house, "type under 4", "P (f ");
        house.limit(5);
        Due.equal("type", house.type(6), 7);
        Due.holds(house, "type under 5", "P (f c)");
        house.limit(6);
        Due.equal("same", house.same(7, 8), -12);
        house.limit(7);
        Due.equal("same", house.same(7, 8), 0);
        Due.spent(house, "same under 7", 0, 2, 0, 3, 0, 2);
        Due.equal("no text had a fault", house.fault(0), 0);
    }

    /** "A LOOK within 100 others ... is DEEP": c stands within 98, 99 and 100 of them. */
    private static void deepTold() {
        String[] lasts = {"v", "u", "t"};
        for (int i = 0; i < lasts.length; i++) {
            House house = Due.house(BASE + MANY);
            int life = house.count(7);
            String text = "norm " + deep(lasts[i]) + ";";
            boolean fits = i < 2;
            Due.faulty(house, text, fits ? 0 : 13, fits ? Due.NONE : 0, fits ? 1 : 0);
            String told = Due.times("f (", 97 + i) + "f ";
            Due.holds(house, text, fits ? told + "c" + Due.times(")", 97 + i) + "\n" : told);
            Due.equal("the LOOKS, the DEEP one too", house.count(6), 20 + 99 + i);
            Due.equal("life", house.count(7), life + house.count(0));
        }
    }

    private static void deepCompared() {
        String[] lasts = {"v", "u", "t"};
        for (int i = 0; i < lasts.length; i++) {
            House house = Due.house(BASE + MANY + "x := " + deep(lasts[i]) + ";y := " + deep("u") + ";");
            boolean fits = i < 2;
            String text = "same " + deep(lasts[i]) + " = " + deep(lasts[i]) + ";";
            Due.faulty(house, text, fits ? 0 : 13, fits ? Due.NONE : 0, fits ? 1 : 0);
            Due.holds(house, text, fits ? "yes\n" : "");
            Due.equal("the LOOKS", house.count(6), 40 + 99 + i);
            Due.equal("same(x, x)", house.same(10, 10), fits ? 1 : -13);
            Due.equal("the LOOKS", house.count(6), 99 + i);
            Due.equal("same(x, y)", house.same(10, 11), i == 1 ? 1 : 0);
            Due.equal("same(y, x)", house.same(11, 10), i == 1 ? 1 : 0);
        }
    }

    private static void deepNormalized() {
        House house = Due.house(BASE + MANY);
        Due.equal("99 of P", Due.say(house, "x : P (" + deep("v") + ");"), 0);
        Due.equal("the LOOKS", house.count(6), 20 + 2 + 100);
        Due.faulty(house, "y : P (" + deep("u") + ");", 13, 0, 0);
        Due.equal("the LOOKS", house.count(6), 20 + 2 + 101);
        Due.equal("y is not there", house.count(8), 11);
        Due.faulty(house, "check h (" + deep("u") + ");", 13, 0, 0);
        Due.equal("the LOOKS", house.count(6), 20 + 1 + 101);
    }

    /** First and second TERMS: of n binders in one another the last TERMS stand within n LOOKS. */
    private static void deepBinders() {
        String right = "R := \\a:type." + Due.times("A->", 10) + "a;S := \\a:type." + Due.times("A->", 9) + "a;";
        String left = "R := \\a:type." + Due.times("(", 9) + "a" + Due.times("->A)", 9) + "->A;"
            + "S := \\a:type." + Due.times("(", 8) + "a" + Due.times("->A)", 8) + "->A;";
        StringBuilder told = new StringBuilder();
        for (int k = 0; k < 99; k++) {
            told.append("!_").append(k).append(":A.");
        }
        deepBinders(right, told + "A\n", told + "!_99:", 200);
        deepBinders(left, Due.times("!_0:(", 98) + "!_0:A.A" + Due.times(").A", 98) + "\n",
            Due.times("!_0:(", 99) + "!_0:", 101);
    }

    private static void deepBinders(String tens, String told, String cut, int looks) {
        String fits = nest("R", "S", "A");
        String deep = nest("R", "R", "A");
        House house = Due.house("A : type;" + tens);
        Due.tells(house, "norm " + fits + ";", told);
        Due.faulty(house, "norm " + deep + ";", 13, 0, 0);
        Due.holds(house, "norm " + deep, cut);
        Due.equal("LOOKS of norm", house.count(6), 20 + looks);
        House other = Due.house("A : type;" + tens);
        Due.tells(other, "same " + fits + " = " + fits + ";", "yes\n");
        Due.faulty(other, "same " + deep + " = " + deep + ";", 13, 0, 0);
        Due.equal("LOOKS of same", other.count(6), 40 + looks);
        Due.equal("x", Due.say(other, "x : " + fits + ";"), 0);
        Due.faulty(other, "y : " + deep + ";", 13, 0, 0);
        Due.equal("LOOKS of y", other.count(6), 20 + looks);
    }

    /** The LOOKS of what N is compared with, and of what stands in a NORMAL FORM. */
    private static void deepUsesInTypes() {
        House house = Due.house(BASE + MANY + "x : P (" + deep("w") + ");j : P (" + deep("w") + ")->A;");
        Due.equal("j x", Due.say(house, "z := j x;"), 0);
        Due.equal("the LOOKS", house.count(6), 99 + 1);
        Due.equal("check j", Due.say(house, "check j;"), 0);
        Due.faulty(house, "k : P (" + deep("v") + ")->A;", 13, 0, 0);
    }

    /** The TYPE of \ is put together from NORMAL FORMS, and may be DEEP itself when it is TOLD. */
    private static void deepTypes() {
        House house = Due.house(BASE + MANY + "x : P (" + deep("v") + ");y := x;z := \\w:A.x;");
        String told = "P (" + Due.times("f (", 97) + "f c" + Due.times(")", 98);
        Due.equal("type(y)", house.type(11), told.length());
        Due.holds(house, "type(y)", told);
        Due.equal("type(z)", house.type(12), -13);
        Due.holds(house, "type(z)", "!_0:A.P (" + Due.times("f (", 97) + "f ");
        Due.faulty(house, " check z;", 13, 1, 0);
        Due.holds(house, "check z", "!_0:A.P (" + Due.times("f (", 97) + "f ");
    }

    private static void placesOfThirteen() {
        House house = Due.house(BASE + MANY);
        Due.faulty(house, "norm c; norm " + deep("t") + ";norm c;", 13, 8, 1);
        Due.holds(house, "norm c and some", "c\n" + Due.times("f (", 99) + "f ");
        Due.faulty(house, "\n same c = c;x : P (" + deep("t") + ");", 13, 13, 1);
    }

    /** "13 ahead of both": THE LIMIT is reached with the very LOOK that is DEEP. */
    private static void deepAheadOfTheLimit() {
        House house = Due.house(BASE + MANY);
        String text = " norm " + deep("t") + ";";
        Due.faulty(house, text, 13, 1, 0);
        int work = house.count(0);
        house.limit(work);
        Due.faulty(house, text, 13, 1, 0);
        Due.equal("the whole limit", house.count(0), work);
        house.limit(work - 1);
        Due.faulty(house, text, 13, 1, 0);
        house.limit(work - 2);
        Due.faulty(house, text, 12, 1, 0);
        Due.equal("the whole limit", house.count(0), work - 2);
    }

    private static void deepAheadOfLife() {
        for (int left = 0; left <= 2; left++) {
            House house = Due.house(BURNING + uses("t", 10));
            String text = " norm " + deep("t") + ";";
            Due.faulty(house, text, 13, 1, 0);
            int work = house.count(0);
            burnTo(house, LIFE - work + left);
            Due.faulty(house, text, left < 2 ? 13 : 14, 1, 0);
            Due.equal("life, " + left + " short", house.count(7), LIFE);
        }
    }

    /** Uses up the WORK of the house's life until that much is used. */
    private static void burnTo(House house, int life) {
        for (int i = 0; i < 4 && house.count(7) < life; i++) {
            house.limit(Math.min(20000, life - house.count(7)));
            Due.equal("burning", Due.say(house, BURNT), 12);
        }
        house.limit(20000);
        Due.equal("burnt", house.count(7), life);
    }

    /** "14 when the WORK of the house's life would be more than 60,000": just as much is none. */
    private static void lifeIsUsedUp() {
        House house = Due.house(BURNING);
        burnTo(house, LIFE - 7);
        Due.tells(house, "norm (\\x:A.x) c;", "c\n");
        Due.equal("life", house.count(7), LIFE);
        Due.faulty(house, "z := c;head c;  check c;", 14, 16, 2);
        Due.holds(house, "what has no WORK", "c 0\n");
        Due.spent(house, "14", 0, 0, 0, 0, 0, 0);
        Due.equal("life", house.count(7), LIFE);
        Due.equal("type", house.type(0), -14);
        Due.holds(house, "type", "");
        Due.equal("same", house.same(0, 0), -14);
        Due.spent(house, "same", 0, 0, 0, 0, 0, 0);
    }

    private static void lifeFallsShort() {
        for (int left = 1; left <= 7; left++) {
            House house = Due.house(BURNING);
            burnTo(house, LIFE - left);
            boolean fits = left == 7;
            Due.faulty(house, " norm (\\x:A.x) c;", fits ? 0 : 14, fits ? Due.NONE : 1, fits ? 1 : 0);
            Due.spent(house, "with " + left, left > 5 ? 1 : 0, 0, 0, left > 4 ? 1 : 0, left > 6 ? 1 : 0,
                Math.min(left, 4));
            Due.equal("life", house.count(7), LIFE);
        }
    }

    /** "OUT keeps what was put out", of 14 too */
    private static void outOfFourteen() {
        House house = Due.house(BURNING);
        burnTo(house, LIFE - 9);
        Due.faulty(house, "norm c; norm f (f c);x : A;", 14, 8, 1);
        Due.holds(house, "14", "c\nf (f ");
        Due.equal("names", house.count(8), 5);
        House other = Due.house(BURNING);
        burnTo(other, LIFE - 2);
        Due.equal("type(2)", other.type(2), -14);
        Due.holds(other, "type(2)", "!_0:A.");
        Due.equal("life", other.count(7), LIFE);
    }

    /** "12 ahead of 14": the same STEP would pass both. */
    private static void limitAheadOfLife() {
        int[] limits = {4, 5, 6};
        int[] faults = {12, 12, 14};
        for (int i = 0; i < limits.length; i++) {
            House house = Due.house(BURNING);
            burnTo(house, LIFE - 5);
            house.limit(limits[i]);
            Due.faulty(house, "norm (\\x:A.x) c;", faults[i], 0, 0);
            Due.equal("life", house.count(7), LIFE - 5 + Math.min(5, limits[i]));
            House other = Due.house(BURNING);
            burnTo(other, LIFE - 2);
            other.limit(limits[i] - 3);
            Due.equal("type(2)", other.type(2), -faults[i]);
        }
    }

    private static void lifeOutlivesCorners() {
        House house = Due.house(BURNING);
        burnTo(house, LIFE);
        house.corner(7);
        Due.equal("life", house.count(7), LIFE);
        Due.faulty(house, "sort s;axiom kind : s;A : type;", 14, 22, 2);
        house.corner(8);
        Due.faulty(house, "sort s;axiom s : s;rule s s s;x := s;check s;", 14, 37, 4);
    }
}
