import java.lang.reflect.Method;
import java.util.Arrays;
import java.util.List;
import java.util.function.Supplier;

/**
 * Every refusal of every call, at the first number that may not stand on each side; the one that is told first where
 * two fit; and behind each that nothing has changed but how many there were. Each is asked of one of two twins.
 */
public final class RefusalsTest {
    private static final int STAR = 1000000000;
    private static final int LOW = Integer.MIN_VALUE;
    private static final int HIGH = Integer.MAX_VALUE;

    private static Supplier<WarmSide> made = Made::bare;

    private RefusalsTest() {
    }

    public static void main(String[] args) throws Exception {
        nobodyOfNew();
        made = Made::some;
        parts();
        links();
        makers();
        states();
        tables();
        textsAndTicks();
        questions();
        moreQuestions();
        marksAndCauses();
        whenFull();
        whenLate();
        actsThatAreNone();
        asking();
        telling();
        Due.end();
    }

    private static long ask(WarmSide w, String name, Object... args) throws Exception {
        for (Method m : WarmSide.class.getMethods()) {
            if (m.getName().equals(name)) return ((Number) m.invoke(w, args)).longValue();
        }
        throw new IllegalArgumentException(name);
    }

    /** The call is refused with a number; the object is as its twin but for that number's count. */
    private static void no(int number, String name, Object... args) throws Exception {
        boolean starred = name.equals("bolt") || name.equals("share");
        String call = name + Arrays.toString(args);
        WarmSide asked = made.get();
        WarmSide twin = made.get();
        Due.is(call, ask(asked, name, args), starred ? STAR - number : number);
        int[] due = Probe.refusals(twin);
        if (number > -9) due[-1 - number]++;
        alike(call, asked, twin, due);
    }

    private static void alike(String call, WarmSide asked, WarmSide twin, int[] refusals) {
        int[] counted = Probe.refusals(asked);
        for (int i = 0; i < 6; i++) {
            Due.is(call + ": refusals of " + (-1 - i), counted[i], refusals[i]);
        }
        List<Long> one = Probe.of(asked);
        List<Long> other = Probe.of(twin);
        Due.holds(call + ": nothing else changes: " + one + " was " + other, one.equals(other));
    }

    /** An answer that is no refusal and changes nothing. */
    private static void yes(String name, Object... args) throws Exception {
        String call = name + Arrays.toString(args);
        WarmSide asked = made.get();
        WarmSide twin = made.get();
        ask(asked, name, args);
        alike(call, asked, twin, Probe.refusals(twin));
    }

    /** A new object has no plate, joint, pipe, box or heater 0, and no act. */
    private static void nobodyOfNew() throws Exception {
        no(-1, "heat", 0, 0);
        no(-1, "face", 0, 0);
        no(-1, "joint", 0, 1, 1);
        no(-1, "pipe", 0, 1, 1);
        no(-1, "frozen", 0, true);
        no(-1, "box", 0, 0);
        no(-1, "works", 0, false);
        no(-1, "heater", 0, 1);
        no(-1, "flap", 0);
        no(-1, "state", 0, false, 0);
        no(-1, "state", 0, true, 0);
        no(-1, "of", 0, 0);
        no(-1, "rest", 0, 0);
        no(-1, "worst", 0, 0, true);
        no(-1, "age", 0, 0, 0, true);
        no(-1, "bolt", 0, 0, 0, 0);
        no(-1, "matters", 0, 0);
        no(-1, "test", 0, 0, 0, 0, 0);
        no(-1, "fits", 0, 0);
        no(-1, "place", 0, 1, 0, 0);
        no(-1, "place", 0, 0, 1, 0);
        no(-1, "marks", 0, 0, 0);
        no(-1, "fails", 0, true, 0);
        no(-1, "work", 0);
        no(-1, "share", 0, 0, 0, true);
        no(-3, "undo");
        no(-3, "redo");
    }

    private static void parts() throws Exception {
        for (int coat : new int[] {-1, 4, LOW, HIGH}) {
            no(-1, "plate", 1, 1, coat);
            no(-1, "plate", 0, 1, coat);
            no(-1, "plate", 1, 21, coat);
        }
        for (int low : new int[] {0, -1, LOW}) {
            no(-4, "plate", low, 1, 0);
            no(-4, "plate", 1, low, 0);
            no(-4, "plate", 100, low, 0);
            no(-4, "plate", low, 21, 0);
        }
        for (int high : new int[] {100, HIGH}) {
            no(-6, "plate", high, 1, 0);
        }
        for (int high : new int[] {21, HIGH}) {
            no(-6, "plate", 1, high, 0);
        }
        for (int p : new int[] {-1, 3, LOW, HIGH}) {
            no(-1, "heat", p, 0);
            no(-1, "heat", p, -1);
            no(-1, "heat", p, 60000);
            no(-1, "face", p, 0);
            no(-1, "face", p, 3);
            no(-1, "flap", p);
            no(-1, "of", p, 0);
            no(-1, "of", p, 5);
        }
        no(-4, "heat", 2, -1);
        no(-4, "heat", 2, LOW);
        no(-6, "heat", 2, 60000);
        no(-6, "heat", 2, HIGH);
        for (int what : new int[] {-1, 3, LOW, HIGH}) {
            no(-2, "face", 0, what);
            no(-2, "sum", what);
        }
        for (int what : new int[] {-1, 5, LOW, HIGH}) {
            no(-2, "of", 0, what);
        }
        no(-3, "flap", 1);
    }

    private static void links() throws Exception {
        for (String name : new String[] {"joint", "pipe"}) {
            for (int p : new int[] {-1, 3, LOW, HIGH}) {
                no(-1, name, p, 0, 1);
                no(-1, name, 0, p, 1);
                no(-1, name, p, 0, 0);
                no(-1, name, 0, p, 100);
                no(-1, name, p, p, 1);
            }
            for (int p = 0; p < 3; p++) {
                no(-1, name, p, p, 1);
            }
            no(-1, name, 1, 1, 0);
            no(-1, name, 1, 1, 100);
            no(-4, name, 0, 1, 0);
            no(-4, name, 0, 1, LOW);
            no(-6, name, 0, 1, 100);
            no(-6, name, 0, 1, HIGH);
        }
        for (int k : new int[] {-1, 2, LOW, HIGH}) {
            no(-1, "frozen", k, true);
            no(-1, "frozen", k, false);
        }
    }

    private static void makers() throws Exception {
        for (int p : new int[] {-1, 3, LOW, HIGH}) {
            no(-1, "box", p, 1);
            no(-1, "box", p, -1);
            no(-1, "box", p, 1000);
            no(-1, "heater", p, 1);
            no(-1, "heater", p, 0);
            no(-1, "heater", p, 1000);
        }
        no(-4, "box", 0, -1);
        no(-4, "box", 0, LOW);
        no(-4, "heater", 0, 0);
        no(-4, "heater", 0, -1);
        no(-4, "heater", 0, LOW);
        for (String name : new String[] {"box", "heater"}) {
            no(-6, name, 0, 1000);
            no(-6, name, 0, HIGH);
        }
        for (int k : new int[] {-1, 2, LOW, HIGH}) {
            no(-1, "works", k, true);
            no(-1, "works", k, false);
            no(-1, "work", k);
        }
    }

    /** Plate 1 alone of three has a flap; there are two heaters. */
    private static void states() throws Exception {
        for (int k : new int[] {-1, LOW, HIGH}) {
            no(-1, "state", k, false, 0);
            no(-1, "state", k, true, 0);
            no(-1, "state", k, false, 4);
            no(-1, "state", k, true, 4);
        }
        no(-1, "state", 2, false, 0);
        no(-1, "state", 3, true, 0);
        for (int v : new int[] {0, 3, 4, -1}) {
            no(-3, "state", 0, true, v);
            no(-3, "state", 2, true, v);
        }
        for (int v : new int[] {-1, 4, LOW, HIGH}) {
            no(-2, "state", 0, false, v);
            no(-2, "state", 1, true, v);
        }
    }

    private static void tables() throws Exception {
        for (int k : new int[] {-1, 7, LOW, HIGH}) {
            no(-1, "point", k, 0);
            no(-1, "point", k, -1);
            no(-1, "point", k, 10000);
        }
        no(-4, "point", 0, -1);
        no(-4, "point", 3, LOW);
        no(-6, "point", 6, 10000);
        no(-6, "point", 3, HIGH);
        for (int k = 0; k <= 5; k++) {
            no(-3, "point", k, 100 * (k + 1) * (k + 1) + 1);
        }
        for (int k = 2; k <= 6; k++) {
            no(-3, "point", k, 100 * (k - 1) * (k - 1) - 1);
        }
        for (int coat : new int[] {-1, 4, LOW, HIGH}) {
            no(-1, "coat", coat, 0, true, 0);
            no(-1, "coat", coat, 0, false, -1);
            no(-1, "coat", coat, 0, true, 101);
        }
        for (int year : new int[] {-1, 10, LOW, HIGH}) {
            no(-1, "coat", 0, year, false, 0);
            no(-1, "coat", 3, year, true, 0);
            no(-1, "coat", 0, year, true, -1);
            no(-1, "coat", 0, year, false, 101);
            no(-1, "year", year);
        }
        for (boolean sends : new boolean[] {false, true}) {
            no(-4, "coat", 0, 0, sends, -1);
            no(-4, "coat", 3, 9, sends, LOW);
            no(-6, "coat", 0, 0, sends, 101);
            no(-6, "coat", 3, 9, sends, HIGH);
        }
        for (int hour : new int[] {-1, 12, LOW, HIGH}) {
            no(-1, "sun", hour, 0);
            no(-1, "sun", hour, -1);
            no(-1, "sun", hour, 1000);
        }
        no(-4, "sun", 0, -1);
        no(-4, "sun", 11, LOW);
        no(-6, "sun", 0, 1000);
        no(-6, "sun", 11, HIGH);
        for (int what : new int[] {-1, 3, LOW, HIGH}) {
            no(-2, "span", what, 0);
            no(-2, "span", what, -1);
            no(-2, "span", what, 51);
        }
        for (int what = 0; what <= 2; what++) {
            no(-4, "span", what, -1);
            no(-4, "span", what, LOW);
            no(-6, "span", what, 51);
            no(-6, "span", what, HIGH);
        }
        no(-4, "freeze", -1);
        no(-4, "freeze", LOW);
        no(-6, "freeze", 601);
        no(-6, "freeze", HIGH);
    }

    /** The text has six bytes, five ticks have passed. */
    private static void textsAndTicks() throws Exception {
        no(-4, "feed", 0, 65L);
        no(-4, "feed", -1, 65L);
        no(-4, "feed", LOW, -1L);
        no(-6, "feed", 9, 65L);
        no(-6, "feed", HIGH, -1L);
        no(-4, "ticks", 0);
        no(-4, "ticks", -1);
        no(-4, "ticks", LOW);
        no(-6, "ticks", 201);
        no(-6, "ticks", HIGH);
    }

    private static void questions() throws Exception {
        for (int p : new int[] {-1, 3, LOW, HIGH}) {
            no(-1, "rest", p, 0);
            no(-1, "worst", p, 0, true);
            no(-1, "worst", p, 0, false);
            no(-1, "age", p, 0, 100, true);
            no(-1, "age", p, 0, -1, true);
            no(-1, "age", p, 0, 601, false);
            no(-1, "bolt", 0, p, 0, 0);
            no(-1, "bolt", 0, p, 0, 2);
            no(-1, "matters", p, 0);
        }
        for (int hour : new int[] {-1, 12, LOW, HIGH}) {
            no(-1, "rest", 0, hour);
            no(-1, "rests", hour, 0);
            no(-1, "rests", hour, -2);
            no(-1, "worst", 0, hour, true);
            no(-1, "age", 0, hour, 100, false);
            no(-1, "age", 0, hour, -1, false);
            no(-1, "age", 0, hour, 601, true);
            no(-1, "bolt", 0, 0, hour, 1);
            no(-1, "bolt", 0, 0, hour, -1);
            no(-1, "matters", 0, hour);
        }
        for (int joint : new int[] {-1, 2, LOW, HIGH}) {
            no(-1, "bolt", joint, 0, 0, 0);
            no(-1, "bolt", joint, 0, 0, 2);
            no(-1, "fits", joint, 0);
            no(-1, "fits", joint, 3);
        }
        for (int what : new int[] {-1, 2, LOW, HIGH}) {
            no(-2, "repeat", what);
            no(-2, "bolt", 0, 0, 0, what);
        }
        for (int what : new int[] {-1, 3, LOW, HIGH}) {
            no(-2, "fits", 0, what);
        }
        no(-4, "rests", 0, -2);
        no(-4, "rests", 0, LOW);
        no(-4, "age", 0, 0, -1, true);
        no(-4, "age", 0, 0, LOW, false);
        no(-6, "age", 0, 0, 601, true);
        no(-6, "age", 0, 0, HIGH, false);
    }

    /** Two boxes and three plates: sets up to 3 and up to 7. */
    private static void moreQuestions() throws Exception {
        for (int p : new int[] {-1, 3, LOW, HIGH}) {
            no(-1, "test", p, 0, 0, 0, 0);
            no(-1, "test", 0, 0, p, 0, 0);
            no(-1, "test", p, -1, 0, 0, 0);
            no(-1, "test", 0, 0, p, 601, 0);
        }
        for (int low : new int[] {-1, LOW}) {
            no(-4, "test", 0, low, 0, 601, 0);
            no(-4, "test", 0, 1000, 0, low, 0);
            no(-4, "test", 0, 0, 0, 601, low);
            no(-4, "test", 0, 0, 0, 0, low);
        }
        for (int high : new int[] {0, HIGH - 1000}) {
            no(-6, "test", 0, 1000 + high, 0, 0, 0);
            no(-6, "test", 0, 0, 0, 601 + high, 0);
            no(-6, "test", 0, 0, 0, 0, 100 + high);
        }
        for (int hour : new int[] {-1, 12, LOW, HIGH}) {
            no(-1, "place", hour, 1, 1, 0);
            no(-1, "place", hour, 1, 1, 4);
            no(-1, "fails", 0, true, hour);
            no(-1, "thaws", hour, 0);
            no(-1, "thaws", hour, -1);
            no(-1, "thaw", hour);
        }
        for (int set : new int[] {4, 5, 8, 128, 256, 1 << 30, -1, LOW, HIGH}) {
            no(-1, "place", 0, set, 7, 0);
            no(-1, "place", 0, set, 7, 4);
        }
        for (int set : new int[] {8, 9, 128, 256, 1 << 30, -1, LOW, HIGH}) {
            no(-1, "place", 0, 1, set, 0);
            no(-1, "place", 0, 1, set, -1);
        }
        for (int what : new int[] {-1, 4, LOW, HIGH}) {
            no(-2, "place", 0, 1, 7, what);
        }
        for (int k : new int[] {-1, 2, LOW, HIGH}) {
            no(-1, "fails", k, true, 0);
            no(-1, "fails", k, false, 0);
        }
        no(-4, "thaws", 0, -1);
        no(-4, "thaws", 0, LOW);
    }

    private static void marksAndCauses() throws Exception {
        for (int p : new int[] {-1, 3, LOW, HIGH}) {
            no(-1, "marks", p, 0, 600);
            no(-1, "marks", p, -1, 600);
            no(-1, "marks", p, 5, 4);
            no(-1, "marks", p, 0, 601);
            no(-1, "share", p, 0, 0, true);
            no(-1, "share", p, 0, 3, false);
        }
        for (int[] row : new int[][] {{-1, 0}, {0, -1}, {-2, -1}, {1, 0}, {600, 599}, {601, 600}, {-1, 601}, {602, 601},
            {LOW, 0}, {0, LOW}, {LOW, HIGH}, {HIGH, 0}}) {
            no(-4, "marks", 0, row[0], row[1]);
        }
        for (int[] row : new int[][] {{0, 601}, {600, 601}, {601, 601}, {0, HIGH}, {HIGH, HIGH}}) {
            no(-6, "marks", 0, row[0], row[1]);
        }
        for (int hour : new int[] {-1, 12, LOW, HIGH}) {
            no(-1, "share", 0, hour, 0, false);
            no(-1, "share", 0, hour, -1, true);
        }
        for (int cause : new int[] {-1, 3, LOW, HIGH}) {
            no(-2, "share", 0, 0, cause, false);
            no(-2, "share", 0, 0, cause, true);
        }
    }

    /** No room comes last of all; the first number behind the last of a full row is nobody's. */
    private static void whenFull() throws Exception {
        made = Made::full;
        no(-6, "plate", 1, 1, 0);
        no(-4, "plate", 0, 1, 0);
        no(-1, "plate", 1, 1, 4);
        no(-6, "joint", 0, 1, 1);
        no(-4, "joint", 0, 1, 0);
        no(-1, "joint", 1, 1, 1);
        no(-1, "joint", 0, 8, 1);
        no(-6, "pipe", 0, 1, 1);
        no(-4, "pipe", 0, 1, 0);
        no(-1, "pipe", 1, 1, 1);
        no(-1, "pipe", 8, 0, 1);
        no(-6, "box", 0, 0);
        no(-4, "box", 0, -1);
        no(-1, "box", 8, 0);
        no(-6, "heater", 0, 1);
        no(-4, "heater", 0, 0);
        no(-1, "heater", 8, 1);
        no(-6, "test", 0, 0, 0, 0, 0);
        no(-4, "test", 0, 0, 0, 0, -1);
        no(-1, "test", 8, 0, 0, 0, 0);
        no(-6, "feed", 1, 65L);
        no(-6, "feed", 8, 65L);
        no(-4, "feed", 0, 65L);
        no(-1, "frozen", 8, true);
        no(-1, "works", 8, true);
        no(-1, "state", 4, false, 0);
        no(-1, "state", 8, true, 0);
        no(-3, "state", 7, true, 0);
        no(-1, "flap", 8);
        no(-3, "flap", 6);
        no(-1, "heat", 8, 0);
        no(-1, "face", 8, 0);
        no(-1, "of", 8, 0);
        no(-1, "rest", 8, 0);
        no(-1, "bolt", 20, 0, 0, 0);
        no(-1, "fits", 20, 0);
        no(-1, "fails", 4, true, 0);
        no(-1, "work", 8);
        no(-1, "place", 0, 256, 255, 0);
        no(-1, "place", 0, 7, 256, 0);
        no(-1, "place", 0, 15, 256, 0);
        no(-1, "place", 12, 15, 255, 0);
        no(-2, "place", 0, 15, 255, 4);
        no(-2, "place", 0, 255, 255, -1);
        no(-6, "place", 0, 15, 255, 0);
        no(-6, "place", 0, 15, 255, 3);
        no(-6, "place", 0, 240, 255, 1);
        no(-6, "place", 0, 255, 0, 0);
    }

    private static void whenLate() throws Exception {
        made = Made::late;
        no(-6, "ticks", 1);
        no(-6, "ticks", 200);
        no(-6, "ticks", 201);
        no(-4, "ticks", 0);
    }

    private static void actsThatAreNone() throws Exception {
        made = Made::busy;
        no(-3, "redo");
        made = () -> {
            WarmSide w = Made.some();
            for (int i = 0; i < 3; i++) {
                w.undo();
            }
            return w;
        };
        no(-3, "undo");
        made = () -> {
            WarmSide w = Made.some();
            w.redo();
            w.redo();
            return w;
        };
        no(-3, "redo");
    }

    /** Calls that only ask change nothing, and count nothing when they answer -9. */
    private static void asking() throws Exception {
        made = Made::some;
        Object[][] calls = {
            {"of", 0, 2}, {"of", 1, 2}, {"sum", 0}, {"rest", 2, 11}, {"rests", 0, -1}, {"rests", 5, 0}, {"rests", 0, 99},
            {"worst", 0, 5, true}, {"worst", 0, 5, false}, {"repeat", 0}, {"repeat", 1}, {"age", 0, 0, 10, false},
            {"age", 0, 0, 600, true}, {"bolt", 0, 0, 0, 0}, {"bolt", 1, 0, 0, 1}, {"matters", 0, 5}, {"fits", 0, 0},
            {"fits", 1, 2}, {"place", 0, 3, 7, 0}, {"place", 5, 3, 6, 2}, {"place", 0, 3, 1, 0}, {"place", 0, 1, 7, 3},
            {"fails", 0, true, 0}, {"fails", 1, false, 5}, {"thaws", 5, 0}, {"thaws", 0, 9}, {"work", 0}, {"work", 1},
            {"share", 0, 0, 0, false}, {"share", 1, 5, 2, true}, {"count", 0}, {"count", 8}, {"count", 15},
        };
        for (Object[] call : calls) {
            yes((String) call[0], Arrays.copyOfRange(call, 1, call.length));
        }
        for (int what : new int[] {-1, 9, 10, 17, LOW, HIGH}) {
            no(-9, "count", what);
        }
        made = () -> {
            WarmSide w = Made.some();
            w.marks(0, 0, 1);
            return w;
        };
        no(-9, "work", 0);
    }

    /** What is told as it is changes nothing, is no act, and leaves what may be done again. */
    private static void telling() throws Exception {
        made = Made::some;
        Object[][] calls = {
            {"heat", 0, Made.some().of(0, 1)}, {"point", 3, 900}, {"coat", 0, 0, true, 100}, {"coat", 3, 9, false, 50},
            {"sun", 5, 500}, {"sun", 1, 0}, {"face", 0, 2}, {"face", 2, 2}, {"frozen", 0, false}, {"frozen", 1, false},
            {"works", 0, true}, {"works", 1, false}, {"state", 1, false, 1}, {"state", 1, true, 1}, {"year", 2},
            {"span", 0, 10}, {"span", 2, 30}, {"marks", 0, 5, 400}, {"freeze", 20},
        };
        for (Object[] call : calls) {
            yes((String) call[0], Arrays.copyOfRange(call, 1, call.length));
        }
    }
}
