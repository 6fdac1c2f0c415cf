import java.util.NoSuchElementException;
import java.util.function.IntSupplier;

/** What every test needs: to say texts to a house, and to compare answers with what is due. */
final class Due {
    static final int NONE = PureHouse.NONE;
    /** Numbers that are far from every bound: a refusal must not hang on how near one is. */
    static final int LOWEST = Integer.MIN_VALUE;
    static final int HIGHEST = Integer.MAX_VALUE;
    private static final int KEPT = 3000;
    private static final int READ_WHOLE = 90;
    private static int wrong = 0;

    private Due() {
    }

    static void fail(String told) {
        wrong++;
        System.out.println(told);
    }

    static void equal(String call, long got, long want) {
        if (got != want) {
            fail(call + " answered " + got + ", due is " + want);
        }
    }

    static void equal(String call, String got, String want) {
        if (!got.equals(want)) {
            fail(call + " answered [" + got + "], due is [" + want + "]");
        }
    }

    static void end() {
        if (wrong != 0) {
            System.exit(1);
        }
    }

    static String times(String part, int n) {
        return part.repeat(n);
    }

    /** A house of corner 7 to which the text has been said, without a fault. */
    static House house(String text) {
        House house = new House();
        equal(text, say(house, text), 0);
        return house;
    }

    /** Feeds the text, with blanks behind it up to a full feed, and has just the text read. */
    static int say(House house, String text) {
        feed(house, text);
        return house.text(text.length());
    }

    static void feed(House house, String text) {
        int[] four = new int[5];
        for (int at = 0; at < text.length(); at += 20) {
            for (int i = 0; i < 20; i++) {
                int sign = at + i < text.length() ? text.charAt(at + i) : ' ';
                four[i / 4] = four[i / 4] << 8 | sign;
            }
            house.feed(four[0], four[1], four[2], four[3], four[4]);
        }
    }

    /** The text goes without a fault, and puts out what is wanted. */
    static void tells(House house, String text, String want) {
        equal(text, say(house, text), 0);
        equal(text + " place", house.fault(1), NONE);
        holds(house, text, want);
    }

    /** OUT is what is wanted: of a long one some bytes are read, for there are but 512 calls. */
    static void holds(House house, String call, String want) {
        int size = house.outs();
        equal(call + " outs", size, want.length());
        int last = Math.min(KEPT, Math.min(size, want.length()));
        StringBuilder got = new StringBuilder();
        StringBuilder due = new StringBuilder();
        for (int k = 0; k < last; k++) {
            if (last <= READ_WHOLE || k < 30 || k >= last - 30 || k % (last / 30) == 0) {
                got.append((char) house.out(k));
                due.append(want.charAt(k));
            }
        }
        equal(call + " OUT", got.toString(), due.toString());
    }

    static void faulty(House house, String text, int fault, int place, int done) {
        equal(text, say(house, text), fault);
        equal(text + " fault", house.fault(0), fault);
        equal(text + " place", house.fault(1), place);
        equal(text + " done", house.fault(2), done);
    }

    /** Counts 0 to 6 in a row: all WORK, B, D, Z, P, V, LOOKS. */
    static void worked(House house, String call, int... want) {
        StringBuilder got = new StringBuilder();
        StringBuilder due = new StringBuilder();
        for (int i = 0; i < want.length; i++) {
            got.append(house.count(i)).append(' ');
            due.append(want[i]).append(' ');
        }
        equal(call + " work", got.toString(), due.toString());
    }

    /** As worked(), all WORK being the sum of the others. */
    static void spent(House house, String call, int b, int d, int z, int p, int v, int looks) {
        worked(house, call, b + d + z + p + v + looks, b, d, z, p, v, looks);
    }

    /** The call throws just that, and nothing that can be asked for changes. */
    static void refused(House house, String call, Class<?> kind, IntSupplier called) {
        String before = state(house);
        equal(call, thrownBy(called), kind.getName());
        equal("the state behind " + call, state(house), before);
    }

    static void noSuch(House house, String call, IntSupplier called) {
        refused(house, call, NoSuchElementException.class, called);
    }

    private static String thrownBy(IntSupplier called) {
        try {
            return "" + called.getAsInt();
        } catch (RuntimeException thrown) {
            return thrown.getClass().getName();
        }
    }

    private static String state(House house) {
        StringBuilder state = new StringBuilder();
        for (int what = 0; what <= 13; what++) {
            state.append(house.count(what)).append(' ');
        }
        for (int what = 0; what <= 2; what++) {
            state.append(house.fault(what)).append(' ');
        }
        int size = house.outs();
        state.append(size);
        if (size > 0) {
            state.append(' ').append(house.out(0)).append(' ').append(house.out(Math.min(size, KEPT) - 1));
        }
        return state.toString();
    }
}
