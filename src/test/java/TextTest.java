/** Promises 16 and 17 at their edges: which bytes may stand where, how many, how deep, and what then rules. */
public final class TextTest {
    /** A right text for each way in which one may be put together; 40 bytes at most. */
    private static final String[] RIGHT = {
        "H0:h<1?0", "H3:s=000?1", "F0:w0>9?0", "F7:w9=99?2", "F7:h=0?1", "H1:h<999?1;s>1?0;w7=12?1",
        "H0:!h=1?0", "H0:(h=1)?1", "H0:!!!!h=1?1", "H0:((((h=1))))?1", "H0:!(!(h=1))?1", "H0:(!(!h=1))?1",
        "H0:h=1&s=1&w1=1|h=2|s=2&w2>2?1", "H0:(h=1|s=1)&!(h=2&s=2)|h=3?0", "F0:((h=1)&((h=2)|((h=3)&s=4)))?2",
        "H0:!!!!h=1&!!!!h=2|!!!!s=3?1", "H0:((((h=1))))|((((h=2))))?1", "H0:(((!h=1&!s=1|!w1=1)))?1",
        "H0:h=0&h=0&h=0&h=0&h=0&h=0&h=0&h=0&h=0?1", "H0:h<1?1;h<2?0;h<3?1;h<4?0;h<5?1;s<66?0",
    };

    private TextTest() {
    }

    public static void main(String[] args) {
        feeding();
        rightTexts();
        endsEarly();
        wrongBytes();
        bytesTooMany();
        depths();
        numbers();
        names();
        statesTold();
        nothingIsCounted();
        takesThePlace();
        signs();
        facts();
        hoursGoRound();
        firstCase();
        stuckIsNotRuled();
        warmthsAsTheyAre();
        Due.end();
    }

    /** Eight plates, the first and the last of which have flaps, and four heaters. */
    private static WarmSide whole() {
        WarmSide w = Made.plates(8);
        w.flap(0);
        w.flap(7);
        for (int k = 0; k < 4; k++) {
            w.heater(k, 5);
        }
        return w;
    }

    private static void fault(WarmSide w, String text, int place) {
        Due.is("17: " + text, Due.rule(w, text), -20 - place);
        Due.is("17: " + text + ": no byte is left", w.count(7), 0);
    }

    private static void feeding() {
        WarmSide w = whole();
        for (int n = 1; n <= 8; n++) {
            Due.is("16: " + n + " bytes", w.feed(n, -1L), n * (n + 1) / 2);
        }
        Due.is("16: 36 and five are above 40", w.feed(5, 0), -6);
        Due.is("16: 36 and three", w.feed(3, 0), 39);
        Due.is("16: 39 and two are above 40", w.feed(2, 0), -6);
        Due.is("16: 39 and one", w.feed(1, 0), 40);
        Due.is("16: 40 and one are above 40", w.feed(1, 0), -6);
        Due.is("16: so they are gone", w.text(), -20);
        Due.is("16: the next begins anew", w.feed(8, 0), 8);
        w.text();
        Due.is("16: the lowest first", w.feed(8, Due.packed("H0:h<1?1", 0, 8)), 8);
        Due.is("16: and it is whole", w.text(), 1);
        Due.is("16: what is above n does not come", w.feed(7, Due.packed("H0:h<1?x", 0, 8)), 7);
        Due.is("16: but later", w.feed(1, '1'), 8);
        Due.is("16: as one text", w.text(), 1);
        for (int i = 0; i < 8; i++) {
            w.feed(1, "H0:h<1?1".charAt(i) | -256L);
        }
        Due.is("16: byte by byte", w.text(), 1);
        Due.is("16: a byte above 127 in front", w.feed(8, Due.packed("H0:h<1?1", 0, 8) | 128), 8);
        Due.is("16: is no H", w.text(), -20);
        Due.is("16: a byte above 127 behind", w.feed(8, Due.packed("H0:h<1?1", 0, 8) | 1L << 63), 8);
        Due.is("16: is no 1", w.text(), -27);
    }

    private static void rightTexts() {
        WarmSide w = whole();
        for (String text : RIGHT) {
            Due.is("17: " + text, Due.rule(w, text), 1);
            Due.is("17: " + text + ": no byte is left", w.count(7), 0);
        }
        Due.is("17: one of them has 40 bytes", RIGHT[RIGHT.length - 2].length(), 40);
    }

    /** The end is the fault if something lacks: of every beginning that does not end with a state. */
    private static void endsEarly() {
        for (String text : RIGHT) {
            WarmSide w = whole();
            for (int n = 0; n < text.length(); n++) {
                boolean complete = n > 0 && text.charAt(n) == ';';
                if (complete) {
                    Due.is("17: " + text.substring(0, n), Due.rule(w, text.substring(0, n)), 1);
                } else {
                    fault(w, text.substring(0, n), n);
                }
            }
        }
    }

    /** A byte that stands nowhere is a fault in its own place, wherever it is put. */
    private static void wrongBytes() {
        char[] never = {0, 10, ' ', '"', '*', ',', '-', '/', '@', 'A', 'G', 'W', 'S', 'f', 'g', 'i', 'v', 'x', '{', 127,
            128, 255};
        for (String text : RIGHT) {
            for (char c : never) {
                WarmSide w = whole();
                for (int i = 0; i < text.length(); i++) {
                    fault(w, text.substring(0, i) + c + text.substring(i + 1), i);
                }
            }
        }
    }

    /** A byte that stands elsewhere is a fault where it can not stand. */
    private static void bytesTooMany() {
        WarmSide w = whole();
        String[] texts = {
            "0", "0", "F", "1", ":", "0", "HH", "1", "H00:h<1?0", "2", "H0::h<1?0", "3", "H0:?0", "3", "H0:;", "3",
            "H0:h<1?0?0", "8", "H0:h<1??0", "7", "H0:h<1?0&", "8", "H0:h<1?0|", "8", "H0:h<1?00", "8", "H0:h<1;", "6",
            "H0:h<1?0;;", "9", "H0:h<1?0;?0", "9", "H0:h<1&&h<1?0", "7", "H0:h<1|&h<1?0", "7", "H0:h<1|?0", "7",
            "H0:&h<1?0", "3", "H0:|h<1?0", "3", "H0:)h<1?0", "3", "H0:h<1)?0", "6", "H0:(h<1))?0", "8", "H0:(h<1?0", "7",
            "H0:(h<1;", "7", "H0:()?0", "4", "H0:(h<1)(h<1)?0", "8", "H0:(h<1)!h<1?0", "8", "H0:(h<1)h<1?0", "8",
            "H0:h<1!h<1?0", "6", "H0:h<1(h<1)?0", "6", "H0:h!<1?0", "4", "H0:!)h<1?0", "4", "H0:!?0", "4", "H0:h?0", "4",
            "H0:h<?0", "5", "H0:h<<1?0", "5", "H0:h<=1?0", "5", "H0:h1?0", "4", "H0:h0<1?0", "4", "H0:s0<1?0", "4",
            "H0:w<1?0", "4", "H0:w00<1?0", "5", "H0:ww0<1?0", "4", "H0:0<1?0", "3", "H0:h<h?0", "5", "H0:h<1h?0", "6",
            "H0:h<1?h", "7", "h<1?0", "0", "0:h<1?0", "0",
            "Hh<1?0", "1", "H:h<1?0", "1", "Fh<1?0", "1", "H0h<1?0", "2", "F0h<1?0", "2", "H0:<1?0", "3", "H0:=1?0", "3",
            "H0:>1?0", "3", "H0:1?0", "3", "H0:h", "4", "H0:w0", "5", "H0:h<", "5", "H0:(", "4", "H0:h<1?!", "7", "H0:H<1?0", "3", "H0:h<1?0;H1:h<1?0", "9", "H0:h<1?0;!", "10",
        };
        for (int i = 0; i + 1 < texts.length; i += 2) {
            fault(w, texts[i], Integer.parseInt(texts[i + 1]));
        }
    }

    /** Four deep stands, of a fifth its own place is the fault: whichever of "!" and "(" they are. */
    private static void depths() {
        for (int mix = 0; mix < 32; mix++) {
            WarmSide w = whole();
            StringBuilder open = new StringBuilder();
            StringBuilder shut = new StringBuilder();
            for (int i = 0; i < 5; i++) {
                boolean not = (mix >> i & 1) == 1;
                open.append(not ? '!' : '(');
                shut.insert(0, not ? "" : ")");
                if (i != 3) continue;
                Due.is("17: " + open, Due.rule(w, "H0:" + open + "h=1" + shut + "?1"), 1);
                Due.is("17: h=2&" + open, Due.rule(w, "H0:h=2&" + open + "h=1" + shut + "?1"), 1);
            }
            fault(w, "H0:" + open + "h=1" + shut + "?1", 7);
            fault(w, "H0:h=2|" + open + "h=1" + shut + "?1", 11);
            fault(w, "H0:h=2?1;" + open + "h=1" + shut + "?1", 13);
            fault(w, "H0:" + open, 7);
        }
        WarmSide w = whole();
        fault(w, "H0:((((h=1&!h=2))))?1", 11);
        fault(w, "H0:((((h=1&(h=2)))))?1", 11);
        fault(w, "H0:(!(h=1)&!((!h=2)))?1", 14);
        Due.is("17: what is shut is deep no more", Due.rule(w, "H0:(((h=1)&(h=2))&((h=3)))&((((h=4))))?1"), 1);
    }

    /** Numbers have one to three digits. */
    private static void numbers() {
        WarmSide w = Made.plates(1);
        w.heater(0, 1);
        for (String number : new String[] {"0", "00", "000", "9", "99", "999", "007", "070"}) {
            Due.is("17: " + number, Due.rule(w, "H0:s=" + number + "?1"), 1);
            w.sun(w.count(0) % 12, Integer.parseInt(number));
            w.state(0, false, 0);
            long was = w.sum(1);
            w.ticks(1);
            Due.is("17: it is " + number, w.sum(1) - was, 1);
        }
        fault(w, "H0:s=0000?1", 8);
        fault(w, "H0:s=9999?1", 8);
        fault(w, "H0:s=12345?1", 8);
        fault(w, "H0:s=?1", 5);
        fault(w, "H0:s=-1?1", 5);
    }

    /** The digit names a heater that is, or a plate with a flap. */
    private static void names() {
        WarmSide none = Made.plates(1);
        fault(none, "H0:h<1?0", 1);
        fault(none, "F0:h<1?0", 1);
        fault(none, "H", 1);
        fault(none, "F", 1);
        WarmSide w = whole();
        for (int k = 0; k <= 9; k++) {
            if (k < 4) {
                Due.is("17: heater " + k, Due.rule(w, "H" + k + ":h<1?0"), 1);
            } else {
                fault(w, "H" + k + ":h<1?0", 1);
            }
            if (k == 0 || k == 7) {
                Due.is("17: flap " + k, Due.rule(w, "F" + k + ":h<1?0"), 1);
            } else {
                fault(w, "F" + k + ":h<1?0", 1);
            }
        }
        fault(w, "H/:h<1?0", 1);
        fault(w, "H::h<1?0", 1);
        fault(w, "F/:h<1?0", 1);
        fault(w, "F::h<1?0", 1);
        w.flap(6);
        Due.is("17: it has one now", Due.rule(w, "F6:h<1?0"), 1);
    }

    private static void statesTold() {
        WarmSide w = whole();
        for (int s = 0; s <= 9; s++) {
            if (s <= 1) {
                Due.is("17: a heater's state " + s, Due.rule(w, "H0:h<1?" + s), 1);
            } else {
                fault(w, "H0:h<1?" + s, 7);
            }
            if (s <= 2) {
                Due.is("17: a flap's state " + s, Due.rule(w, "F0:h<1?" + s), 1);
            } else {
                fault(w, "F0:h<1?" + s, 7);
            }
        }
        fault(w, "H0:h<1?/", 7);
        fault(w, "F0:h<1?:", 7);
        fault(w, "H0:h<1?0;h<1?2", 13);
        fault(w, "F0:h<1?0;h<1?3", 13);
        for (int s = 0; s <= 2; s++) {
            Due.rule(w, "F7:h>12?1;h<12?" + s);
            w.ticks(1);
            Due.is("17: state " + s + " is told", w.of(7, 2), s);
        }
    }

    private static void nothingIsCounted() {
        WarmSide w = whole();
        Due.is("17: none has come", w.text(), -20);
        fault(w, "H9:h<1?0", 1);
        fault(w, "H0:h<1?9", 7);
        fault(w, "H0:!!!!!h<1?9", 7);
        for (int i : Probe.refusals(w)) {
            Due.is("17: no refusal is counted", i, 0);
        }
        Due.is("17: a text is no act", w.count(8), 0);
    }

    /** Heaters and flaps have their texts apart; a later one takes the place of the whole earlier one. */
    private static void takesThePlace() {
        WarmSide w = whole();
        Due.rule(w, "H0:h<12?1");
        Due.rule(w, "F0:h<12?0");
        Due.rule(w, "H3:h<12?1");
        Due.rule(w, "F7:h<12?1");
        w.ticks(1);
        Due.is("17: two heaters", w.sum(1), 10);
        Due.is("17: the first flap", w.of(0, 2), 0);
        Due.is("17: the last flap", w.of(7, 2), 1);
        Due.rule(w, "H0:h>11?1");
        w.state(0, false, 0);
        w.state(3, false, 0);
        w.state(0, true, 2);
        w.state(7, true, 2);
        w.ticks(1);
        Due.is("17: one heater has another text", w.sum(1), 15);
        Due.is("17: the first flap has its own", w.of(0, 2), 0);
        Due.is("17: the last flap has its own", w.of(7, 2), 1);
        fault(w, "H3:h<12?0;h<", 12);
        fault(w, "H3:h<12?0;h<12?2", 15);
        w.state(3, false, 0);
        w.ticks(1);
        Due.is("17: a text with a fault takes no place", w.sum(1), 20);
        Due.rule(w, "H3:h<12&h<12&h<12&h<12&h<12&h<12&h>1?0");
        Due.rule(w, "H3:h=99?1");
        w.state(3, false, 1);
        w.ticks(1);
        Due.is("17: of a longer one nothing is left", w.sum(1), 25);
    }

    /** Whether a test holds with plate 0 at 150, sun 70, hour 0: told by a heater that it turns on. */
    private static boolean holds(String test) {
        WarmSide w = Made.plates(1);
        w.heater(0, 7);
        w.heat(0, 1509);
        w.sun(0, 70);
        Due.is("17: " + test, Due.rule(w, "H0:" + test + "?1"), 1);
        w.ticks(1);
        return w.sum(1) == 7;
    }

    private static void signs() {
        String[] facts = {"w0", "150", "s", "70", "h", "0", "w1", "0", "w9", "0"};
        for (int i = 0; i + 1 < facts.length; i += 2) {
            int value = Integer.parseInt(facts[i + 1]);
            for (int number = Math.max(0, value - 1); number <= value + 1; number++) {
                Due.holds("17: " + facts[i] + "<" + number, holds(facts[i] + "<" + number) == value < number);
                Due.holds("17: " + facts[i] + "=" + number, holds(facts[i] + "=" + number) == (value == number));
                Due.holds("17: " + facts[i] + ">" + number, holds(facts[i] + ">" + number) == value > number);
            }
        }
        for (int bits = 0; bits < 8; bits++) {
            boolean a = (bits & 1) != 0;
            boolean b = (bits & 2) != 0;
            boolean c = (bits & 4) != 0;
            String x = a ? "h=0" : "h=1";
            String y = b ? "s=70" : "s=71";
            String z = c ? "w0=150" : "w0=151";
            Due.holds("17: & " + bits, holds(x + "&" + y) == (a && b));
            Due.holds("17: | " + bits, holds(x + "|" + y) == (a || b));
            Due.holds("17: | & " + bits, holds(x + "|" + y + "&" + z) == (a || b && c));
            Due.holds("17: & | " + bits, holds(x + "&" + y + "|" + z) == (a && b || c));
            Due.holds("17: ! & " + bits, holds("!" + x + "&" + y) == (!a && b));
            Due.holds("17: ! | " + bits, holds("!" + x + "|" + y) == (!a || b));
            Due.holds("17: !( | ) " + bits, holds("!(" + x + "|" + y + ")&" + z) == (!(a || b) && c));
            Due.holds("17: ( | )& " + bits, holds("(" + x + "|" + y + ")&" + z) == ((a || b) && c));
            Due.holds("17: &( | ) " + bits, holds(x + "&(" + y + "|" + z + ")") == (a && (b || c)));
            Due.holds("17: &!( & ) " + bits, holds(x + "&!(" + y + "&" + z + ")") == (a && !(b && c)));
            Due.holds("17: !!| " + bits, holds("!!" + x + "|!!!" + y) == (a || !b));
        }
    }

    /** w and a digit: warmth of that plate, 0 without; a plate that comes later is one then. */
    private static void facts() {
        WarmSide w = Made.plates(7);
        w.heater(0, 1);
        for (int p = 0; p < 7; p++) {
            w.heat(p, 1000 + 10 * p);
        }
        for (int p = 0; p <= 9; p++) {
            Due.rule(w, "H0:w" + p + "=" + (p < 7 ? 100 + p : 0) + "?1;h<12?0");
            for (int q = 0; q < 7; q++) {
                w.heat(q, 1000 + 10 * q);
            }
            long was = w.sum(1);
            w.ticks(1);
            Due.is("17: w" + p, w.sum(1) - was, 1);
        }
        Due.rule(w, "H0:w7=123?1;h<12?0");
        long was = w.sum(1);
        w.ticks(1);
        Due.is("17: there is no plate 7", w.sum(1) - was, 0);
        w.plate(10, 1, 0);
        w.heat(7, 1230);
        w.ticks(1);
        Due.is("17: now there is", w.sum(1) - was, 1);
        w.heat(7, 59999);
        Due.rule(w, "H0:w7=600?1;h<12?0");
        w.ticks(1);
        Due.is("17: warmth is 600 at most", w.sum(1) - was, 2);
    }

    /** Hours are ticks modulo 12. */
    private static void hoursGoRound() {
        WarmSide w = Made.plates(1);
        w.heater(0, 1);
        for (int h = 0; h < 12; h++) {
            w.sun(h, 10 + h);
        }
        for (int t = 0; t < 27; t++) {
            Due.rule(w, "H0:h=" + t % 12 + "&s=" + (10 + t % 12) + "?1;h<12?0");
            w.ticks(1);
            Due.is("17: hour and sun of tick " + t, w.sum(1), t + 1);
        }
        Due.rule(w, "H0:h>11?1;h<12?0");
        w.ticks(24);
        Due.is("17: no hour is above 11", w.sum(1), 27);
    }

    private static void firstCase() {
        WarmSide w = Made.plates(1);
        w.flap(0);
        Due.rule(w, "F0:h=0?0;h<2?1;h<3?2;h<4?0;h=6?1");
        int[] due = {0, 1, 2, 0, 0, 0, 1, 1, 1, 1, 1, 1, 0, 1};
        for (int t = 0; t < due.length; t++) {
            w.ticks(1);
            Due.is("17: the first case that holds, or as it was, tick " + t, w.of(0, 2), due[t]);
        }
    }

    private static void stuckIsNotRuled() {
        for (int s = 0; s <= 3; s++) {
            WarmSide w = whole();
            Due.rule(w, "H0:h<6?1;h>5?0");
            Due.rule(w, "F0:h<6?1;h>5?0");
            w.state(0, false, s);
            w.state(0, true, s);
            w.ticks(1);
            Due.is("II: a flap of state " + s, w.of(0, 2), s == 3 ? 3 : 1);
            Due.is("II: a heater of state " + s, w.state(0, false, 0), s < 2 ? 1 : s);
        }
    }

    /** Texts see warmths as they are ahead of the tick, and what they tell holds in it. */
    private static void warmthsAsTheyAre() {
        WarmSide w = Made.plates(1);
        w.coat(0, 0, true, 0);
        w.heater(0, 100);
        Due.rule(w, "H0:w0<10?1;w0>9?0");
        w.heat(0, 99);
        w.ticks(1);
        Due.is("II: 9 is below 10: it heats in this tick", w.of(0, 1), 199);
        w.ticks(1);
        Due.is("II: 19 is not: no more in this tick", w.of(0, 1), 199);
    }
}
