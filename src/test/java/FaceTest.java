import java.util.NoSuchElementException;

/** Promises 1, 2, 3, 4, 6, 7 and 8: a new object, the tape, the limit and OUT. */
public final class FaceTest {
    private static final String NUMBERS = "nat : type := !a:type.(a->a)->a->a;";

    private FaceTest() {
    }

    public static void main(String[] args) {
        newObject();
        feed();
        bytesAreHighestFirst();
        text();
        fault();
        limit();
        out();
        outBeyondWhatIsKept();
        Due.end();
    }

    private static void newObject() {
        PureHouse house = new PureHouse();
        Due.equal("NONE", PureHouse.NONE, -1);
        int[] counts = {0, 0, 0, 0, 0, 0, 0, 0, 0, 2, 1, 4, 0, 0};
        for (int what = 0; what < counts.length; what++) {
            Due.equal("new count " + what, house.count(what), counts[what]);
        }
        Due.equal("new outs", house.outs(), 0);
        Due.equal("new fault 0", house.fault(0), 0);
        Due.equal("new fault 1", house.fault(1), PureHouse.NONE);
        Due.equal("new fault 2", house.fault(2), 0);
        Due.equal("new limit", house.limit(7), 5000);
        Due.equal("new rule", house.rule(0, 1), 1);
    }

    private static void feed() {
        PureHouse house = new PureHouse();
        for (int i = 1; i <= 200; i++) {
            Due.equal("feed " + i, house.feed(i, 0, -1, 0, 0), 20 * i);
        }
        Due.equal("feed of a full tape", house.feed(0, 0, 0, 0, 0), PureHouse.NONE);
        Due.equal("full tape", house.count(13), 4000);
        Due.equal("text of a bad byte", house.text(4000), 1);
        Due.equal("tape behind text", house.count(13), 0);
        Due.equal("feed again", house.feed(1, 2, 3, 4, 5), 20);
    }

    private static void bytesAreHighestFirst() {
        PureHouse house = new PureHouse();
        int ab = 'A' << 24 | ' ' << 16 | ':' << 8 | ' ';
        int type = 't' << 24 | 'y' << 16 | 'p' << 8 | 'e';
        int end = ';' << 24 | ' ' << 16 | ' ' << 8 | ' ';
        house.feed(ab, type, end, -1, Integer.MIN_VALUE);
        Due.equal("text(9)", house.text(9), 0);
        Due.equal("name 0", house.name(0, 3), 'A');
    }

    private static void text() {
        PureHouse house = new PureHouse();
        Due.equal("text(0)", house.text(0), 0);
        Due.refused("text(1)", IllegalArgumentException.class, () -> house.text(1));
        Due.refused("text(-1)", IllegalArgumentException.class, () -> house.text(-1));
        Due.tells(house, "check type;", "kind\n");
        house.feed(0, 0, 0, 0, 0);
        Due.refused("text(21)", IllegalArgumentException.class, () -> house.text(21));
        Due.equal("tape is as it was", house.count(13), 20);
        Due.equal("OUT is as it was", Due.told(house), "kind\n");
        Due.equal("text(0) empties", house.text(0), 0);
        Due.equal("tape is empty", house.count(13), 0);
        Due.equal("OUT is empty", house.outs(), 0);
        Due.faulty(house, "A : type;c : A;c : A;d : A;", 4, 15, 2);
        Due.equal("what was done ahead stays", house.count(8), 2);
    }

    private static void fault() {
        PureHouse house = new PureHouse();
        Due.faulty(house, "check type;check kind;check type;", 7, 17, 1);
        Due.equal("OUT of what was done", Due.told(house), "kind\n");
        Due.equal("text", Due.say(house, "A : type;"), 0);
        Due.equal("fault 0", house.fault(0), 0);
        Due.equal("fault 1", house.fault(1), PureHouse.NONE);
        Due.equal("fault 2", house.fault(2), 1);
        Due.refused("fault(3)", NoSuchElementException.class, () -> house.fault(3));
        Due.refused("fault(-1)", NoSuchElementException.class, () -> house.fault(-1));
        house.limit(1);
        Due.equal("B", Due.say(house, "B : type;"), 0);
        Due.faulty(house, "F : A->A;", 12, 0, 0);
        house.same(0, 1);
        Due.equal("fault is of the latest text", house.fault(0), 12);
    }

    private static void limit() {
        PureHouse house = new PureHouse();
        Due.equal("limit(1)", house.limit(1), 5000);
        Due.equal("limit(20000)", house.limit(20000), 1);
        Due.refused("limit(0)", IllegalArgumentException.class, () -> house.limit(0));
        Due.refused("limit(-5)", IllegalArgumentException.class, () -> house.limit(-5));
        Due.refused("limit(20001)", IllegalArgumentException.class, () -> house.limit(20001));
        Due.equal("limit is as it was", house.limit(5), 20000);
        house.corner(2);
        Due.equal("limit outlives a corner", house.limit(6), 5);
    }

    private static void out() {
        PureHouse house = new PureHouse();
        Due.tells(house, "check type;", "kind\n");
        Due.equal("outs", house.outs(), 5);
        Due.equal("out 4", house.out(4), 10);
        Due.refused("out(5)", NoSuchElementException.class, () -> house.out(5));
        Due.refused("out(-1)", NoSuchElementException.class, () -> house.out(-1));
        Due.equal("a text that is none", Due.say(house, "check ("), 1);
        Due.equal("OUT is empty ahead of it", house.outs(), 0);
    }

    private static void outBeyondWhatIsKept() {
        PureHouse house = Due.house(NUMBERS);
        Due.equal("many checks", Due.say(house, Due.times("check type;", 363)), 0);
        Due.equal("outs", house.outs(), 1815);
        Due.equal("norms", Due.say(house, Due.times("norm nat;", 120)), 0);
        String one = "!_0:type.!_1:(!_1:_0._0).!_2:_0._0\n";
        Due.equal("outs", house.outs(), 120 * one.length());
        Due.equal("what is kept", Due.told(house), Due.times(one, 120).substring(0, 3000));
        Due.refused("out(3000)", NoSuchElementException.class, () -> house.out(3000));
    }
}
