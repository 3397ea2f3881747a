/** Compares answers with what is due, and counts those that differ. */
final class Due {
    private static int wrong = 0;
    private static int asked = 0;

    private Due() {
    }

    static void is(String what, long got, long want) {
        asked++;
        if (got == want) return;
        wrong++;
        System.out.println(what + " answered " + got + ", due is " + want);
    }

    static void holds(String what, boolean right) {
        is(what, right ? 1 : 0, 1);
    }

    /** Feeds a text, eight bytes a call, and answers what text() says of it. */
    static int rule(WarmSide w, String text) {
        feed(w, text);
        return w.text();
    }

    static void feed(WarmSide w, String text) {
        for (int from = 0; from < text.length(); from += 8) {
            int n = Math.min(8, text.length() - from);
            w.feed(n, packed(text, from, n));
        }
    }

    static long packed(String text, int from, int n) {
        long bytes = 0;
        for (int i = 0; i < n; i++) {
            bytes |= (long) (text.charAt(from + i) & 255) << 8 * i;
        }
        return bytes;
    }

    static void end() {
        System.out.println(asked + " answers, " + wrong + " of them wrong");
        if (wrong != 0 || asked == 0) System.exit(1);
    }
}
