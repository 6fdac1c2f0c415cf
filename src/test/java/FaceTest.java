/** Promises 1 to 4 and 6 to 8: a new object, the tape, texts and their faults, THE LIMIT, OUT. */
public final class FaceTest {
    private static final String BASE = "A : type;c : A;";
    private static final String FED = "A : type;check A->A;";

    private FaceTest() {
    }

    public static void main(String[] args) {
        newObject();
        newObjectsLimit();
        feedUpToFull();
        fullTapeIsOneText();
        highestByteFirst();
        bytesAboveSevenBits();
        textOfSome();
        textOfNone();
        textOfTooMany();
        textEmptiesTheTape();
        textEmptiesOut();
        faultOfTheLatestText();
        faultRefuses();
        limitBounds();
        limitRefuses();
        outBounds();
        outKeeps();
        typeBeyondWhatIsKept();
        Due.end();
    }

    /** "An empty tape, corner 7, an empty CONTEXT, OUT empty, ..., no WORK." */
    private static void newObject() {
        House house = new House();
        Due.equal("NONE", PureHouse.NONE, -1);
        int[] counts = {0, 0, 0, 0, 0, 0, 0, 0, 0, 2, 1, 4, 0, 0};
        for (int what = 0; what < counts.length; what++) {
            Due.equal("new count " + what, house.count(what), counts[what]);
        }
        int[] rules = {0, 1, 0, 1};
        for (int i = 0; i < rules.length; i++) {
            Due.equal("new rule " + i, house.rule(i / 2, i % 2), rules[i]);
        }
        Due.equal("new fault 0", house.fault(0), 0);
        Due.equal("new fault 1", house.fault(1), Due.NONE);
        Due.equal("new fault 2", house.fault(2), 0);
        Due.holds(house, "new", "");
        Due.noSuch(house, "new out(0)", () -> house.out(0));
        Due.noSuch(house, "new name(0, 0)", () -> house.name(0, 0));
    }

    /** "THE LIMIT 5,000": what would need far more ends when it has used just that. */
    private static void newObjectsLimit() {
        House house = Due.house(BASE
            + "ten := \\f:A->A.\\x:A.f(f(f(f(f(f(f(f(f(f x)))))))));i := \\x:A.x;");
        Due.faulty(house, "head ten (ten (ten (ten i))) c;", 12, 0, 0);
        Due.equal("the new limit is all used", house.count(0), 5000);
        Due.equal("the new limit", house.limit(1), 5000);
    }

    /** "how many it has; NONE, and none come, if it would have more than 4,000" */
    private static void feedUpToFull() {
        House house = new House();
        for (int i = 1; i <= 199; i++) {
            Due.equal("feed " + i, house.feed(i, 0, -1, 0, 0), 20 * i);
        }
        Due.equal("bytes", house.count(13), 3980);
        Due.equal("feed to 4,000", house.feed(1, 2, 3, 4, 5), 4000);
        Due.equal("feed of a full tape", house.feed(0, 0, 0, 0, 0), Due.NONE);
        Due.equal("none came", house.count(13), 4000);
        Due.equal("feed once more", house.feed(-1, -1, -1, -1, -1), Due.NONE);
        Due.equal("text of 4,000 wrong bytes", house.text(4000), 1);
        Due.equal("feed again", house.feed(1, 2, 3, 4, 5), 20);
    }

    /** The bytes that a full tape refuses are not among its own: the last of them still ends it. */
    private static void fullTapeIsOneText() {
        House house = new House();
        Due.feed(house, Due.times(" ", 3989) + "check type;");
        Due.equal("feed of a full tape", house.feed(0, 0, 0, 0, 0), Due.NONE);
        Due.equal("text(4000)", house.text(4000), 0);
        Due.holds(house, "text(4000)", "kind\n");
    }

    /** "Twenty bytes come behind the tape, of each number the highest first" */
    private static void highestByteFirst() {
        House house = new House();
        Due.equal("feed", house.feed(0x41203A20, 0x74797065, 0x3B636865, 0x636B2041, 0x2D3E413B), 20);
        Due.equal(FED, house.text(20), 0);
        Due.holds(house, FED, "type\n");
        Due.equal("name", house.name(0, 3), 'A');
        Due.equal("feed", house.feed(0x7B000000, 1, 2, 3, 4), 20);
        Due.equal("feed behind it", house.feed(5, 6, 7, 8, 0x7D626164), 40);
        Due.equal("text", house.text(40), 1);
        Due.equal("the end comes too soon", house.fault(1), 40);
    }

    private static void bytesAboveSevenBits() {
        House house = new House();
        Due.equal("feed", house.feed(0x207B80FF, 0xFFFFFFFF, 0x80808080, 0xC3A4E97D, 0x20FF2020), 20);
        Due.equal("text", house.text(20), 1);
        Due.equal("in { } they count for nothing", house.fault(1), 17);
    }

    /** "The first n bytes of the tape ... are a TEXT: 0, or its FAULT." */
    private static void textOfSome() {
        int[] lengths = {8, 9, 10, 19, 20};
        int[] faults = {1, 0, 1, 1, 0};
        int[] places = {8, Due.NONE, 10, 19, Due.NONE};
        int[] done = {0, 1, 0, 0, 2};
        for (int i = 0; i < lengths.length; i++) {
            House house = new House();
            Due.feed(house, FED);
            Due.equal("text " + lengths[i], house.text(lengths[i]), faults[i]);
            Due.equal("fault 0 of " + lengths[i], house.fault(0), faults[i]);
            Due.equal("fault 1 of " + lengths[i], house.fault(1), places[i]);
            Due.equal("fault 2 of " + lengths[i], house.fault(2), done[i]);
            Due.equal("names of " + lengths[i], house.count(8), Math.min(1, done[i]));
        }
    }

    private static void textOfNone() {
        House house = new House();
        Due.equal("text(0) of an empty tape", house.text(0), 0);
        Due.equal("fault(1)", house.fault(1), Due.NONE);
        Due.equal("fault(2)", house.fault(2), 0);
        Due.feed(house, FED);
        Due.equal("text(0)", house.text(0), 0);
        Due.equal("fault(2)", house.fault(2), 0);
        Due.equal("names", house.count(8), 0);
        Due.equal("tape", house.count(13), 0);
    }

    /** "IllegalArgumentException: the tape has not so many, n below 0 (nothing changes)." */
    private static void textOfTooMany() {
        House empty = new House();
        Due.refused(empty, "text(1)", IllegalArgumentException.class, () -> empty.text(1));
        Due.refused(empty, "text(-1)", IllegalArgumentException.class, () -> empty.text(-1));
        House house = new House();
        Due.faulty(house, "check type;check kind;", 7, 17, 1);
        Due.feed(house, FED);
        for (int n : new int[] {21, -1, Due.LOWEST, Due.HIGHEST}) {
            Due.refused(house, "text(" + n + ")", IllegalArgumentException.class, () -> house.text(n));
        }
        Due.equal("the tape is as it was", house.text(20), 0);
        Due.holds(house, FED, "type\n");
    }

    private static void textEmptiesTheTape() {
        House house = new House();
        Due.feed(house, FED);
        Due.equal("text(9)", house.text(9), 0);
        Due.equal("tape", house.count(13), 0);
        Due.refused(house, "text(1)", IllegalArgumentException.class, () -> house.text(1));
        Due.tells(house, "check A;", "type\n");
    }

    /** "OUT is empty ahead of it." */
    private static void textEmptiesOut() {
        House house = new House();
        Due.tells(house, "check type;check type;", "kind\nkind\n");
        Due.tells(house, "A : type;", "");
        Due.tells(house, "check type;", "kind\n");
        Due.faulty(house, "check (", 1, 7, 0);
        Due.holds(house, "a text that is none", "");
        Due.tells(house, "check type;", "kind\n");
        Due.tells(house, "", "");
    }

    /** "Of the latest text(): 0 its FAULT, 1 the place (NONE without), 2 how many STATEMENTS were done." */
    private static void faultOfTheLatestText() {
        House house = new House();
        Due.faulty(house, "check type;check kind;check type;", 7, 17, 1);
        Due.holds(house, "of what was done", "kind\n");
        Due.faulty(house, "A : type;B : type;", 0, Due.NONE, 2);
        Due.faulty(house, " kind : type;", 4, 1, 0);
        Due.faulty(house, "", 0, Due.NONE, 0);
        house.limit(1);
        Due.faulty(house, "c : A;F : A->A;", 12, 6, 1);
        Due.equal("same", house.same(0, 1), 0);
        Due.equal("type", house.type(0), 4);
        house.corner(8);
        Due.equal("fault(0) is of the text", house.fault(0), 12);
        Due.equal("fault(1) is of the text", house.fault(1), 6);
        Due.equal("fault(2) is of the text", house.fault(2), 1);
    }

    /** "NoSuchElementException: another what." */
    private static void faultRefuses() {
        House house = new House();
        Due.faulty(house, "check type;check kind;", 7, 17, 1);
        for (int what : new int[] {-1, 3, Due.LOWEST, Due.HIGHEST}) {
            Due.noSuch(house, "fault(" + what + ")", () -> house.fault(what));
        }
    }

    /** "THE LIMIT: what it was." */
    private static void limitBounds() {
        House house = new House();
        Due.equal("limit(1)", house.limit(1), 5000);
        Due.equal("limit(2)", house.limit(2), 1);
        Due.equal("limit(19999)", house.limit(19999), 2);
        Due.equal("limit(20000)", house.limit(20000), 19999);
        Due.equal("limit(20000) again", house.limit(20000), 20000);
        house.corner(2);
        Due.equal("limit outlives a corner", house.limit(6), 20000);
        Due.equal("text", Due.say(house, "A : type;"), 0);
        Due.equal("limit outlives a text", house.limit(7), 6);
    }

    /** "IllegalArgumentException: n is not 1 .. 20,000." */
    private static void limitRefuses() {
        House house = Due.house(BASE);
        house.limit(3);
        for (int n : new int[] {0, -1, 20001, Due.LOWEST, Due.HIGHEST}) {
            Due.refused(house, "limit(" + n + ")", IllegalArgumentException.class, () -> house.limit(n));
        }
        Due.faulty(house, "f : A->A;", 12, 0, 0);
        Due.equal("limit is as it was", house.limit(5), 3);
    }

    /** "Byte k of OUT. NoSuchElementException: there is none such ..." */
    private static void outBounds() {
        House house = new House();
        Due.tells(house, "check type;", "kind\n");
        Due.equal("out(0)", house.out(0), 'k');
        Due.equal("out(4)", house.out(4), 10);
        for (int k : new int[] {5, 6, -1, Due.LOWEST, Due.HIGHEST}) {
            Due.noSuch(house, "out(" + k + ")", () -> house.out(k));
        }
        Due.equal("a shorter one", Due.say(house, "A : type;c : A;check c;"), 0);
        Due.equal("out(1)", house.out(1), 10);
        Due.noSuch(house, "out(2)", () -> house.out(2));
    }

    /** "How many bytes OUT has; its first 3,000 are kept." Texts with 2,999, 3,000, 3,001 and 3,035 bytes. */
    private static void outKeeps() {
        String nat = "!_0:type.!_1:(!_1:_0._0).!_2:_0._0\n";
        String[] ends = {
            Due.times("check c;", 12), "same A = c;" + Due.times("check c;", 11),
            Due.times("same A = c;", 2) + Due.times("check c;", 10), "norm n;norm n;"};
        String[] told = {
            Due.times("A\n", 12), "no\n" + Due.times("A\n", 11),
            Due.times("no\n", 2) + Due.times("A\n", 10), nat + nat};
        for (int i = 0; i < ends.length; i++) {
            House house = Due.house(BASE + "n : type := !a:type.(a->a)->a->a;");
            String want = Due.times(nat, 85) + told[i];
            Due.tells(house, Due.times("norm n;", 85) + ends[i], want);
            int last = Math.min(want.length(), 3000) - 1;
            Due.equal("the last that is kept of " + want.length(), house.out(last), want.charAt(last));
            Due.noSuch(house, "behind the last that is kept", () -> house.out(last + 1));
            Due.noSuch(house, "behind all", () -> house.out(want.length()));
        }
    }

    /** A type of more bytes than are kept is told in its whole length. */
    private static void typeBeyondWhatIsKept() {
        House house = Due.house(BASE + "p := \\a:type.a->a;");
        house.limit(20000);
        Due.equal("x", Due.say(house, "x : " + Due.times("p (", 9) + "A" + Due.times(")", 9) + ";"), 0);
        String want = doubled(9, 0);
        Due.equal("type(3)", house.type(3), want.length());
        Due.holds(house, "type(3)", want);
        Due.equal("the last that is kept", house.out(2999), want.charAt(2999));
        Due.noSuch(house, "out(3000)", () -> house.out(3000));
    }

    private static String doubled(int times, int level) {
        if (times == 0) {
            return "A";
        }
        String first = doubled(times - 1, level);
        String told = times == 1 ? first : "(" + first + ")";
        return "!_" + level + ":" + told + "." + doubled(times - 1, level + 1);
    }
}
