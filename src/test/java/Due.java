import java.util.function.IntSupplier;

/** What every test needs: to say texts to a house, and to compare answers with what is due. */
final class Due {
    private static int wrong = 0;

    private Due() {
    }

    static void equal(String call, long got, long want) {
        if (got != want) {
            wrong++;
            System.out.println(call + " answered " + got + ", due is " + want);
        }
    }

    static void equal(String call, String got, String want) {
        if (!got.equals(want)) {
            wrong++;
            System.out.println(call + " answered [" + got + "], due is [" + want + "]");
        }
    }

    static void refused(String call, Class<?> kind, IntSupplier called) {
        String got;
        try {
            got = "" + called.getAsInt();
        } catch (RuntimeException thrown) {
            got = thrown.getClass().getName();
        }
        equal(call, got, kind.getName());
    }

    static void end() {
        if (wrong != 0) {
            System.exit(1);
        }
    }

    /** Feeds the text, with blanks behind it up to a full feed, and has just the text read. */
    static int say(PureHouse house, String text) {
        int[] four = new int[5];
        for (int at = 0; at < text.length(); at += 20) {
            for (int i = 0; i < 20; i++) {
                int sign = at + i < text.length() ? text.charAt(at + i) : ' ';
                four[i / 4] = four[i / 4] << 8 | sign;
            }
            house.feed(four[0], four[1], four[2], four[3], four[4]);
        }
        return house.text(text.length());
    }

    static String told(PureHouse house) {
        StringBuilder told = new StringBuilder();
        for (int i = 0; i < house.outs() && i < 3000; i++) {
            told.append((char) house.out(i));
        }
        return told.toString();
    }

    /** The text goes without a fault, and puts out what is wanted. */
    static void tells(PureHouse house, String text, String want) {
        equal(text, say(house, text), 0);
        equal(text + " place", house.fault(1), PureHouse.NONE);
        equal(text, told(house), want);
    }

    static void faulty(PureHouse house, String text, int fault, int place, int done) {
        equal(text, say(house, text), fault);
        equal(text + " fault", house.fault(0), fault);
        equal(text + " place", house.fault(1), place);
        equal(text + " done", house.fault(2), done);
    }

    /** Counts 0 to 6 in a row: all WORK, B, D, Z, P, V, LOOKS. */
    static void worked(PureHouse house, String call, int... want) {
        StringBuilder got = new StringBuilder();
        StringBuilder due = new StringBuilder();
        for (int i = 0; i < want.length; i++) {
            got.append(house.count(i)).append(' ');
            due.append(want[i]).append(' ');
        }
        equal(call + " work", got.toString(), due.toString());
    }

    static PureHouse house(String text) {
        PureHouse house = new PureHouse();
        equal(text, say(house, text), 0);
        return house;
    }

    static String times(String part, int n) {
        return part.repeat(n);
    }
}
