/** One method for each promise of the document: ordinary inputs, the edges it names, and wrong inputs. */
public final class PromisesTest {
    private static final int STAR = 1000000000;

    private PromisesTest() {
    }

    public static void main(String[] args) {
        newObject();
        plate();
        heat();
        point();
        coat();
        sun();
        face();
        joint();
        pipe();
        frozen();
        box();
        works();
        heater();
        flap();
        state();
        feed();
        textFaults();
        textRules();
        year();
        ticks();
        ticksBelowNothing();
        of();
        sum();
        rest();
        rests();
        span();
        worst();
        repeat();
        trialsChangeNothing();
        age();
        bolt();
        matters();
        test();
        fits();
        place();
        marks();
        fails();
        freeze();
        thaws();
        thaw();
        work();
        share();
        undo();
        actsApart();
        redo();
        count();
        Due.end();
    }

    /** Plates of mass 10, area 1 and a coat that sends all: SENT is the table's number. */
    private static WarmSide plates(int n) {
        WarmSide w = new WarmSide();
        for (int p = 0; p < n; p++) {
            w.plate(10, 1, 0);
        }
        for (int y = 0; y <= 9; y++) {
            w.coat(0, y, true, 100);
        }
        return w;
    }

    private static void newObject() {
        WarmSide w = new WarmSide();
        for (int what = 0; what <= 8; what++) {
            Due.is("1: new: count(" + what + ")", w.count(what), 0);
        }
        for (int what = 11; what <= 16; what++) {
            Due.is("1: new: count(" + what + ")", w.count(what), 0);
        }
        for (int what = 0; what <= 2; what++) {
            Due.is("1: new: sum(" + what + ")", w.sum(what), 0);
        }
        Due.is("1: new: of(0, 0)", w.of(0, 0), -1);
        Due.is("1: new: repeat(0)", w.repeat(0), 1);
        Due.is("1: new: repeat(1)", w.repeat(1), 0);
        Due.is("1: new: ticks(12)", w.ticks(12), 12);
        Due.is("1: another object", new WarmSide().count(0), 0);
    }

    private static void plate() {
        WarmSide w = new WarmSide();
        Due.is("2: the least", w.plate(1, 1, 0), 0);
        Due.is("2: the greatest", w.plate(99, 20, 3), 1);
        Due.is("2: no coat below", w.plate(1, 1, -1), -1);
        Due.is("2: no coat above", w.plate(1, 1, 4), -1);
        Due.is("2: -1 comes ahead of -4 and -6", w.plate(0, 21, 4), -1);
        Due.is("2: mass below", w.plate(0, 1, 0), -4);
        Due.is("2: area below", w.plate(1, 0, 0), -4);
        Due.is("2: -4 comes ahead of -6", w.plate(100, 0, 0), -4);
        Due.is("2: mass above", w.plate(100, 1, 0), -6);
        Due.is("2: area above", w.plate(1, 21, 0), -6);
        for (int p = 2; p < 8; p++) {
            Due.is("2: the next number", w.plate(5, 5, 1), p);
        }
        Due.is("2: no room", w.plate(5, 5, 1), -6);
        Due.is("2: no room, but no coat first", w.plate(5, 5, 9), -1);
        Due.is("2: how many", w.count(1), 8);
        Due.is("2: heat at first", w.of(7, 1), 0);
    }

    private static void heat() {
        WarmSide w = new WarmSide();
        w.plate(7, 1, 0);
        Due.is("3: what it was", w.heat(0, 700), 0);
        Due.is("3: what it was then", w.heat(0, 59999), 700);
        Due.is("3: warmth has an end", w.of(0, 0), 600);
        Due.is("3: the least", w.heat(0, 0), 59999);
        Due.is("3: below", w.heat(0, -1), -4);
        Due.is("3: above", w.heat(0, 60000), -6);
        Due.is("3: no plate", w.heat(1, 5), -1);
        Due.is("3: no plate comes first", w.heat(-1, -1), -1);
        w.heat(0, 13);
        Due.is("3: warmth is cut", w.of(0, 0), 1);
        Due.is("3: no act", w.count(8), 0);
    }

    private static void point() {
        WarmSide w = new WarmSide();
        for (int k = 6; k >= 0; k--) {
            Due.is("4: at first", w.point(k, 100 * k * k), 100 * k * k);
        }
        Due.is("4: as the one ahead", w.point(2, 100), 400);
        Due.is("4: as the one behind", w.point(2, 900), 100);
        Due.is("4: below the one ahead", w.point(2, 99), -3);
        Due.is("4: above the one behind", w.point(2, 901), -3);
        Due.is("4: nothing changed", w.point(2, 400), 900);
        Due.is("4: the greatest", w.point(6, 9999), 3600);
        Due.is("4: above", w.point(6, 10000), -6);
        Due.is("4: above comes ahead of not rising", w.point(0, 10000), -6);
        Due.is("4: below", w.point(0, -1), -4);
        Due.is("4: no point", w.point(7, -1), -1);
        Due.is("4: no point below", w.point(-1, 0), -1);
        Due.is("4: the first has none ahead", w.point(0, 100), 0);
        Due.is("4: the second below the first", w.point(1, 99), -3);
        Due.is("4: the last but one above the last", w.point(5, 10000), -6);
        w.point(6, 3600);
        Due.is("4: the last but one above the last", w.point(5, 3601), -3);
        Due.is("4: as the last", w.point(5, 3600), 2500);
    }

    private static void coat() {
        WarmSide w = new WarmSide();
        Due.is("5: takes at first", w.coat(3, 9, false, 100), 50);
        Due.is("5: sends at first", w.coat(3, 9, true, 0), 50);
        Due.is("5: takes is kept apart", w.coat(3, 9, false, 1), 100);
        Due.is("5: sends is kept apart", w.coat(3, 9, true, 2), 0);
        Due.is("5: years are kept apart", w.coat(3, 8, true, 2), 50);
        Due.is("5: no coat", w.coat(4, 0, true, -1), -1);
        Due.is("5: no coat below", w.coat(-1, 0, true, 1), -1);
        Due.is("5: no year", w.coat(0, 10, true, 101), -1);
        Due.is("5: no year below", w.coat(0, -1, true, 1), -1);
        Due.is("5: below", w.coat(0, 0, true, -1), -4);
        Due.is("5: above", w.coat(0, 0, false, 101), -6);
        w.plate(10, 20, 3);
        w.sun(0, 999);
        w.year(9);
        w.ticks(1);
        Due.is("5: a plate takes by its coat in the year", w.sum(0), 20 * 999 / 100);
    }

    private static void sun() {
        WarmSide w = new WarmSide();
        Due.is("6: at first", w.sun(11, 999), 0);
        Due.is("6: what it was", w.sun(11, 0), 999);
        Due.is("6: no hour", w.sun(12, -1), -1);
        Due.is("6: no hour below", w.sun(-1, 5), -1);
        Due.is("6: below", w.sun(0, -1), -4);
        Due.is("6: above", w.sun(0, 1000), -6);
        w.plate(10, 2, 0);
        w.sun(1, 300);
        w.ticks(1);
        Due.is("6: hour 0 has none", w.sum(0), 0);
        w.ticks(1);
        Due.is("6: hour 1 has 300", w.sum(0), 300);
        w.ticks(12);
        Due.is("6: and again a round later", w.sum(0), 600);
    }

    private static void face() {
        WarmSide w = new WarmSide();
        w.plate(10, 1, 0);
        w.coat(0, 0, false, 99);
        w.coat(0, 0, true, 0);
        for (int h = 0; h < 12; h++) {
            w.sun(h, 5);
        }
        w.ticks(1);
        Due.is("7: whole: 5 * 99 * 2 / 200, cut", w.sum(0), 4);
        Due.is("7: whole at first", w.face(0, 1), 2);
        w.ticks(1);
        Due.is("7: half: 5 * 99 / 200, cut", w.sum(0), 6);
        Due.is("7: half", w.face(0, 0), 1);
        w.ticks(1);
        Due.is("7: not at all", w.sum(0), 6);
        Due.is("7: no plate comes first", w.face(1, 3), -1);
        Due.is("7: other", w.face(0, 3), -2);
        Due.is("7: other below", w.face(0, -1), -2);
        Due.is("7: as it is", w.face(0, 0), 0);
        Due.is("7: which is no act", w.count(8), 0);
        w.face(0, 2);
        Due.is("7: an act", w.count(8), 1);
    }

    private static void joint() {
        WarmSide w = plates(2);
        Due.is("8: one plate twice", w.joint(1, 1, 0), -1);
        Due.is("8: no plate", w.joint(0, 2, 100), -1);
        Due.is("8: no plate below", w.joint(-1, 0, 1), -1);
        Due.is("8: below", w.joint(0, 1, 0), -4);
        Due.is("8: above", w.joint(0, 1, 100), -6);
        Due.is("8: the greatest", w.joint(0, 1, 99), 0);
        Due.is("8: a second of the same", w.joint(1, 0, 1), 1);
        for (int j = 2; j < 20; j++) {
            Due.is("8: the next number", w.joint(0, 1, 1), j);
        }
        Due.is("8: no room", w.joint(0, 1, 1), -6);
        Due.is("8: how many", w.count(2), 20);

        WarmSide v = plates(2);
        v.coat(0, 0, true, 0);
        v.joint(0, 1, 3);
        v.heat(1, 109);
        v.ticks(1);
        Due.is("8: leads to the colder one", v.of(0, 1), 30);
        Due.is("8: leads from the warmer one", v.of(1, 1), 79);
    }

    private static void pipe() {
        WarmSide w = plates(2);
        Due.is("9: one plate twice", w.pipe(1, 1, 0), -1);
        Due.is("9: no plate", w.pipe(2, 0, 1), -1);
        Due.is("9: below", w.pipe(0, 1, 0), -4);
        Due.is("9: above", w.pipe(0, 1, 100), -6);
        for (int j = 0; j < 8; j++) {
            Due.is("9: the next number", w.pipe(0, 1, 99), j);
        }
        Due.is("9: no room", w.pipe(0, 1, 1), -6);
        Due.is("9: below comes ahead of no room", w.pipe(0, 1, 0), -4);
        Due.is("9: how many", w.count(3), 8);

        WarmSide v = plates(2);
        v.coat(0, 0, true, 0);
        v.pipe(0, 1, 3);
        v.heat(1, 100);
        v.ticks(1);
        Due.is("9: nothing against its way", v.of(1, 1), 100);
        v.heat(0, 200);
        v.ticks(1);
        Due.is("9: from the first", v.of(0, 1), 170);
        Due.is("9: to the second", v.of(1, 1), 130);
    }

    private static void frozen() {
        WarmSide w = plates(2);
        w.coat(0, 0, true, 0);
        w.pipe(0, 1, 3);
        w.heat(0, 200);
        Due.is("10: no pipe", w.frozen(1, true), -1);
        Due.is("10: no pipe below", w.frozen(-1, true), -1);
        Due.is("10: it was so at first", w.frozen(0, false), 0);
        Due.is("10: frozen", w.frozen(0, true), 1);
        Due.is("10: it was so", w.frozen(0, true), 0);
        Due.is("10: one act", w.count(8), 1);
        w.ticks(1);
        Due.is("10: leads nothing", w.of(1, 1), 0);
        Due.is("10: not frozen", w.frozen(0, false), 1);
        w.ticks(1);
        Due.is("10: leads again", w.of(1, 1), 60);
    }

    private static void box() {
        WarmSide w = plates(2);
        Due.is("11: no plate", w.box(2, -1), -1);
        Due.is("11: below", w.box(0, -1), -4);
        Due.is("11: above", w.box(0, 1000), -6);
        Due.is("11: the least", w.box(0, 0), 0);
        Due.is("11: the greatest", w.box(1, 999), 1);
        w.ticks(1);
        Due.is("11: it works at first", w.of(1, 1), 999);
        Due.is("11: made", w.sum(1), 999);
        for (int b = 2; b < 8; b++) {
            Due.is("11: the next number", w.box(0, 1), b);
        }
        Due.is("11: no room", w.box(0, 1), -6);
        Due.is("11: how many", w.count(4), 8);
    }

    private static void works() {
        WarmSide w = plates(1);
        w.box(0, 10);
        Due.is("12: it was so", w.works(0, true), 0);
        Due.is("12: not any more", w.works(0, false), 1);
        Due.is("12: it was so then", w.works(0, false), 0);
        Due.is("12: one act", w.count(8), 1);
        w.ticks(1);
        Due.is("12: makes nothing", w.sum(1), 0);
        Due.is("12: again", w.works(0, true), 1);
        w.ticks(1);
        Due.is("12: makes its watts", w.sum(1), 10);
        Due.is("12: no box", w.works(1, true), -1);
        Due.is("12: no box below", w.works(-1, true), -1);
    }

    private static void heater() {
        WarmSide w = plates(1);
        Due.is("13: no plate", w.heater(1, 0), -1);
        Due.is("13: below", w.heater(0, 0), -4);
        Due.is("13: above", w.heater(0, 1000), -6);
        for (int k = 0; k < 4; k++) {
            Due.is("13: the next number", w.heater(0, k == 0 ? 999 : 1), k);
        }
        Due.is("13: no room", w.heater(0, 1), -6);
        Due.is("13: how many", w.count(5), 4);
        w.ticks(1);
        Due.is("13: off at first", w.sum(1), 0);
        w.state(0, false, 1);
        w.ticks(1);
        Due.is("13: on", w.sum(1), 999);
        w.state(0, false, 3);
        w.ticks(1);
        Due.is("13: stuck on", w.sum(1), 1998);
        w.state(0, false, 2);
        w.ticks(1);
        Due.is("13: stuck off", w.sum(1), 1998);
    }

    private static void flap() {
        WarmSide w = plates(2);
        Due.is("14: none at first", w.of(0, 2), -9);
        Due.is("14: no plate", w.flap(2), -1);
        Due.is("14: no plate below", w.flap(-1), -1);
        Due.is("14: it has one", w.flap(0), 1);
        Due.is("14: open at first", w.of(0, 2), 2);
        Due.is("14: it has one already", w.flap(0), -3);
        Due.is("14: the other one has none", w.of(1, 2), -9);
        Due.is("14: no act", w.count(8), 0);
    }

    private static void state() {
        WarmSide w = plates(2);
        w.heater(0, 5);
        w.flap(1);
        Due.is("15: no heater", w.state(1, false, 4), -1);
        Due.is("15: no plate", w.state(2, true, 0), -1);
        Due.is("15: no flap comes ahead of other", w.state(0, true, 4), -3);
        Due.is("15: other", w.state(0, false, 4), -2);
        Due.is("15: other below", w.state(1, true, -1), -2);
        Due.is("15: off at first", w.state(0, false, 3), 0);
        Due.is("15: stuck on", w.state(0, false, 1), 3);
        Due.is("15: on", w.state(0, false, 1), 1);
        Due.is("15: two acts", w.count(8), 2);
        int[] sentOf = {23, 59, 118};
        for (int s = 0; s <= 2; s++) {
            w.heat(0, 0);
            w.heat(1, 1060);
            w.state(1, true, s);
            long was = w.sum(2);
            w.ticks(1);
            Due.is("15: sent by a flap in state " + s, w.sum(2) - was, sentOf[s]);
            w.heat(0, 0);
            w.heat(1, 1060);
            w.state(1, true, 3);
            was = w.sum(2);
            w.ticks(1);
            Due.is("15: sent by a flap stuck as in state " + s, w.sum(2) - was, sentOf[s]);
            Due.is("15: told stuck once more", w.state(1, true, 3), 3);
        }
    }

    private static void feed() {
        WarmSide w = plates(1);
        w.heater(0, 1);
        Due.is("16: below", w.feed(0, 0), -4);
        Due.is("16: below too", w.feed(-5, 0), -4);
        Due.is("16: above", w.feed(9, 0), -6);
        Due.is("16: three bytes", w.feed(3, Due.packed("H0:zzzzz", 0, 8)), 3);
        Due.is("16: and five more, the lowest first", w.feed(5, Due.packed("h<5?1", 0, 5)), 8);
        Due.is("16: how many", w.count(7), 8);
        Due.is("16: what was beyond did not come", w.text(), 1);
        for (int i = 1; i <= 5; i++) {
            Due.is("16: eight bytes", w.feed(8, -1L), 8 * i);
        }
        Due.is("16: no room", w.feed(1, 0), -6);
        Due.is("16: 40 stand", w.count(7), 40);
        Due.is("16: a byte of 255 is one", w.text(), -20);
        w.feed(8, 0);
        w.feed(8, 0);
        w.feed(8, 0);
        w.feed(8, 0);
        w.feed(1, 0);
        Due.is("16: not above 40", w.feed(8, 0), -6);
        Due.is("16: but to 40", w.feed(7, 0), 40);
    }

    private static void textFaults() {
        WarmSide w = plates(2);
        w.heater(0, 1);
        w.heater(0, 1);
        w.flap(1);
        String[] texts = {
            "0", "20", "X0:h<1?0", "20", "H", "21", "Hx", "21", "H2:h<1?0", "21", "F0:h<1?0", "21", "F2:h<1?0",
            "21", "H0", "22", "H0;", "22", "H0:", "23", "H0:?1", "23", "H0:w", "24", "H0:wh", "24", "H0:w9", "25",
            "H0:w9!", "25", "H0:h", "24", "H0:h<", "25", "H0:h<x", "25", "H0:h<1", "26", "H0:h<123", "28",
            "H0:h<1234?1", "28", "H0:h<1?", "27", "H0:h<1?2", "27", "F1:h<1?3", "27", "H0:h<1?11", "28", "H0:h<1?1;",
            "29", "H0:h<1?1;;", "29", "H0:h<1)?1", "26", "H0:(h<1?1", "27", "H0:(h<1", "27", "H0:()", "24",
            "H0:!", "24", "H0:h<1&", "27", "H0:h<1|?", "27", "H0:h<1&&", "27", "H0:!!!!!h<1?1", "27",
            "H0:(((((h<1)))))?1", "27", "H0:!(!(!h<1))?1", "27", "H0:(!h<1", "28", "H0:h<1 ?1", "26", "H0:h<=1?1",
            "25", "H0:h!1", "24", "h0:h<1?1", "20", "H0:W0<1?1", "23", "H0:h?1?1",
            "24", "H0:w:<1?1", "24", "H0:h<:?1", "25", "H0:h<1:?1", "26", "H0:h<12:?1", "27", "H0:h<1&)", "27",
            "H0:h<1&?1", "27", "H0:h<1|?1", "27", "H0:!?1", "24", "H0:(?1", "24", "H0:h<?1", "25", "H0:h<1&!)", "28",
            "H0:h<1|(h<1&x", "32",
        };
        Due.is("17: nothing at all", w.text(), -20);
        for (int i = 0; i + 1 < texts.length; i += 2) {
            Due.is("17: " + texts[i], Due.rule(w, texts[i]), -Integer.parseInt(texts[i + 1]));
            Due.is("17: it is gone", w.count(7), 0);
        }
        for (int what = 11; what <= 16; what++) {
            Due.is("17: nothing is counted", w.count(what), 0);
        }
        String[] right = {
            "H0:h<1?1", "H1:h<1?0", "F1:h<1?2", "H0:w9=999?1", "H0:!!!!h<1?1", "H0:((((h<1))))?1", "H0:!(!(h<1))?1",
            "H0:!(!h<1|!(h<1))&!!!!s>0?1", "H0:h<1?1;h<2?0;h<3?1;h<4?0;h<5?1;h<6?0", "H0:(h<1)&(h>2)|((s=007))?0",
        };
        for (String text : right) {
            Due.is("17: " + text, Due.rule(w, text), 1);
        }
    }

    /** Whether a test holds with plate 0 at 150, sun 70, hour 0: told by a heater that it turns on. */
    private static boolean holds(String test) {
        WarmSide w = plates(1);
        w.heater(0, 7);
        w.heat(0, 1500);
        w.sun(0, 70);
        Due.is("17: " + test, Due.rule(w, "H0:" + test + "?1"), 1);
        w.ticks(1);
        return w.sum(1) == 7;
    }

    private static void textRules() {
        String[] right = {
            "w0=150", "w0<151", "w0>149", "s=70", "h=0", "h<1", "w1=0", "w9<1", "!w0<150", "w0=150&s=70",
            "w0=1|s=70", "w0=1&s=1|h=0", "h=0|w0=1&s=1", "!(w0=1|s=1)", "!w0=1&s=70", "!!h=0", "(h=0|s=1)&s=70",
            "h=0|h=1|h=2", "h=2|h=1|h=0", "h=0&s=70&w0=150", "w0=1|(s=70&(h=0|h=1))",
            "h=0&(h=0&s=70)", "h=0&(h=1|s=70)", "h=0&(h=0&(s=70&!h=1))",
        };
        String[] wrong = {
            "w0=151", "w0<150", "w0>150", "s<70", "h>0", "w1>0", "w8=150", "!w0=150", "w0=150&s=71", "w0=1|s=71",
            "h=0&s=1|h=1", "(h=0|w0=1)&s=1", "!(w0=1|s=70)", "!h=0|s=1", "!!!h=0", "h=1|h=2|h=3", "h=0&s=70&w0=1",
            "h=1&(h=0|h=0)", "!(!(h=1))",
        };
        for (String test : right) {
            Due.holds("17: holds: " + test, holds(test));
        }
        for (String test : wrong) {
            Due.holds("17: does not hold: " + test, !holds(test));
        }
        farFacts();
        WarmSide w = plates(2);
        w.heater(0, 7);
        w.flap(1);
        Due.is("17: of a flap", Due.rule(w, "F1:h=0?0;h<2?1;h=5?2"), 1);
        Due.is("17: of a heater", Due.rule(w, "H0:h=1?1;h=3?0"), 1);
        int[] flaps = {0, 1, 1, 1, 1, 2, 2};
        int[] made = {0, 7, 14, 14, 14, 14, 14};
        for (int h = 0; h < 7; h++) {
            w.ticks(1);
            Due.is("17: the first case that holds tells, flap, hour " + h, w.of(1, 2), flaps[h]);
            Due.is("17: and heater, hour " + h, w.sum(1), made[h]);
        }
        Due.is("17: a later one takes its place", Due.rule(w, "F1:h>20?2;h=7?1"), 1);
        w.ticks(1);
        Due.is("17: the later one tells", w.of(1, 2), 1);
        Due.is("17: a fault leaves it", Due.rule(w, "F1:h=8?3"), -27);
        w.state(1, true, 0);
        w.ticks(12);
        Due.is("17: it still tells", w.of(1, 2), 1);
        w.state(1, true, 3);
        w.ticks(24);
        Due.is("17: not what is stuck", w.of(1, 2), 3);
        w.state(0, false, 2);
        w.ticks(12);
        Due.is("17: nor a heater that is stuck", w.state(0, false, 0), 2);
    }

    /** Of 8 plates, all at 100, the last is w7; w8 and w9 are of none. */
    private static void farFacts() {
        WarmSide w = plates(8);
        for (int p = 0; p < 8; p++) {
            w.heat(p, 1000);
        }
        w.flap(0);
        w.flap(7);
        Due.is("17: of the first flap", Due.rule(w, "F0:w7=100&w8=0&w9=0?1;h=99?2"), 1);
        Due.is("17: of the last flap", Due.rule(w, "F7:w8>0|w9>0?0;w7>0?1"), 1);
        w.ticks(1);
        Due.is("17: the first flap", w.of(0, 2), 1);
        Due.is("17: the last flap", w.of(7, 2), 1);
    }

    private static void year() {
        WarmSide w = new WarmSide();
        Due.is("18: at first", w.year(9), 0);
        Due.is("18: what it was", w.year(3), 9);
        Due.is("18: no year", w.year(10), -1);
        Due.is("18: no year below", w.year(-1), -1);
        w.plate(10, 2, 0);
        w.sun(0, 100);
        w.coat(0, 3, false, 7);
        w.ticks(1);
        Due.is("18: coats as of the year", w.sum(0), 14);
    }

    private static void ticks() {
        WarmSide w = plates(1);
        w.box(0, 3);
        Due.is("19: below", w.ticks(0), -4);
        Due.is("19: above", w.ticks(201), -6);
        Due.is("19: one", w.ticks(1), 1);
        Due.is("19: two hundred", w.ticks(200), 201);
        w.works(0, false);
        Due.is("19: an act", w.count(8), 1);
        Due.is("19: refused", w.ticks(-1), -4);
        Due.is("19: a refusal forgets nothing", w.count(8), 1);
        for (int i = 2; i < 50; i++) {
            Due.is("19: in all", w.ticks(200), 200 * i + 1);
        }
        Due.is("19: a tick forgets acts", w.count(8), 0);
        Due.is("19: above 9999 in all", w.ticks(199), -6);
        Due.is("19: to 9999", w.ticks(198), 9999);
        Due.is("19: no more", w.ticks(1), -6);
        Due.is("19: but -4", w.ticks(0), -4);

        for (int t = 0; t <= 600; t += t % 100 < 2 || t % 100 > 97 ? 1 : 12) {
            WarmSide u = plates(1);
            u.heat(0, 10 * t + 9);
            u.ticks(1);
            Due.is("19: sent at " + t, u.sum(2), sending(t));
        }
        WarmSide v = plates(2);
        v.heat(0, 1500);
        v.heat(1, 5500);
        v.joint(0, 1, 2);
        v.pipe(1, 0, 1);
        v.ticks(1);
        Due.is("19: all at once, by warmths as they were", v.of(0, 1), 1500 - 250 + 3 * 400);
        Due.is("19: of both", v.of(1, 1), 5500 - 3050 - 3 * 400);
    }

    private static void ticksBelowNothing() {
        WarmSide w = plates(2);
        w.coat(1, 0, true, 100);
        w.heat(0, 60);
        w.point(0, 50);
        w.point(1, 150);
        w.ticks(1);
        Due.is("19: sent what the table says", w.of(0, 1), 4);
        Due.is("19: the other had none to send", w.sum(2), 56);
        w.ticks(1);
        Due.is("19: below 0 it is 0", w.of(0, 1), 0);
        Due.is("19: it sent only what it had", w.sum(2), 60);
        w.joint(0, 1, 99);
        w.heat(1, 100);
        w.ticks(1);
        Due.is("19: it led more than it had", w.of(1, 1), 0);
        Due.is("19: the other got it all the same", w.of(0, 1), 940);
        Due.is("19: and it sent nothing", w.sum(2), 110);
    }

    private static void of() {
        WarmSide w = plates(1);
        w.heat(0, 1239);
        Due.is("20: warmth", w.of(0, 0), 123);
        Due.is("20: heat", w.of(0, 1), 1239);
        Due.is("20: no flap", w.of(0, 2), -9);
        w.flap(0);
        w.state(0, true, 1);
        Due.is("20: its flap", w.of(0, 2), 1);
        w.state(0, true, 3);
        Due.is("20: its flap, stuck", w.of(0, 2), 3);
        Due.is("20: least", w.of(0, 3), 0);
        Due.is("20: most", w.of(0, 4), 600);
        w.marks(0, 5, 6);
        Due.is("20: least told", w.of(0, 3), 5);
        Due.is("20: most told", w.of(0, 4), 6);
        Due.is("20: other", w.of(0, 5), -2);
        Due.is("20: other below", w.of(0, -1), -2);
        Due.is("20: no plate comes first", w.of(1, 9), -1);
        Due.is("20: no plate below", w.of(-1, 0), -1);
    }

    private static void sum() {
        WarmSide w = plates(2);
        w.sun(0, 10);
        w.box(0, 3);
        w.heater(1, 4);
        w.state(0, false, 1);
        w.heat(0, 1000);
        w.ticks(1);
        Due.is("21: taken by both", w.sum(0), 10);
        Due.is("21: made by box and heater", w.sum(1), 7);
        Due.is("21: sent", w.sum(2), 100);
        Due.is("21: other", w.sum(3), -2);
        Due.is("21: other below", w.sum(-1), -2);
        Due.is("21: counted", w.count(12), 2);
        w.repeat(0);
        w.work(0);
        Due.is("21: trials are not told", w.sum(1), 7);
    }

    private static void rest() {
        WarmSide w = plates(2);
        w.coat(1, 0, true, 0);
        Due.is("22: nothing comes", w.rest(0, 0), 0);
        w.box(0, 300);
        Due.is("22: the greatest at which 300 are not sent", w.rest(0, 0), 166);
        Due.is("22: the other", w.rest(1, 0), 0);
        w.sun(4, 400);
        Due.is("22: sun of the hour", w.rest(1, 4), 133);
        Due.is("22: no plate", w.rest(2, 0), -1);
        Due.is("22: no hour", w.rest(0, 12), -1);
        Due.is("22: no hour below", w.rest(0, -1), -1);
        w.plate(1, 1, 1);
        Due.is("22: what sends nothing rests at 600", w.rest(2, 0), 600);
        w.point(0, 100);
        Due.is("22: at 0 it may lose", w.rest(1, 0), 0);
        Due.is("22: nothing is changed", w.of(0, 1), 0);
        int[][] rows = {
            {300, 0, 5, 0, 0}, {900, 40, 1, 9, 0}, {900, 40, 1, 0, 9}, {20, 700, 99, 0, 0}, {500, 500, 3, 3, 3},
            {0, 250, 2, 50, 1}, {1, 0, 99, 0, 0}, {900, 0, 0, 9, 0}, {0, 900, 0, 9, 7}, {0, 900, 0, 9, 0},
        };
        for (int[] row : rows) {
            greatestOfAll(row);
        }
        pipesAtRest();
        WarmSide v = plates(1);
        v.flap(0);
        v.box(0, 300);
        v.state(0, true, 0);
        Due.is("22: by its flap", v.rest(0, 0), 386);
        v.heater(0, 300);
        Due.is("22: heater off", v.rest(0, 0), 386);
        v.state(0, true, 2);
        v.state(0, false, 3);
        Due.is("22: heater stuck on", v.rest(0, 0), 240);
    }

    private static void pipesAtRest() {
        WarmSide w = plates(4);
        w.box(0, 150);
        w.pipe(0, 1, 1);
        w.pipe(0, 2, 1);
        w.pipe(3, 0, 1);
        Due.is("22: what leads away to two", w.rest(0, 0), 74);
        Due.is("22: one of them", w.rest(1, 0), 37);
        Due.is("22: against its way", w.rest(3, 0), 0);
        w.frozen(1, true);
        Due.is("22: one is frozen", w.rest(0, 0), 100);
        Due.is("22: it warms no more", w.rest(2, 0), 0);
        Due.is("22: the other does", w.rest(1, 0), 50);
        w.frozen(0, true);
        Due.is("22: both are", w.rest(0, 0), 116);
        w.frozen(1, false);
        Due.is("22: the second alone leads", w.rest(2, 0), 50);
    }

    /** Two plates: the greatest of all rows of two warmths, looked for among them all. */
    private static void greatestOfAll(int[] row) {
        WarmSide w = plates(2);
        w.box(0, row[0]);
        w.box(1, row[1]);
        if (row[2] > 0) w.joint(0, 1, row[2]);
        if (row[3] > 0) w.pipe(0, 1, row[3]);
        if (row[4] > 0) w.pipe(1, 0, row[4]);
        int bestA = 0;
        int bestB = 0;
        for (int a = 0; a <= 600; a++) {
            for (int b = 0; b <= 600; b++) {
                int led = row[2] * (a - b) + row[3] * Math.max(0, a - b) - row[4] * Math.max(0, b - a);
                boolean right = (a == 0 || row[0] - led >= sending(a)) && (b == 0 || row[1] + led >= sending(b));
                if (!right) continue;
                bestA = Math.max(bestA, a);
                bestB = Math.max(bestB, b);
            }
        }
        Due.is("22: greatest of the first", w.rest(0, 0), bestA);
        Due.is("22: greatest of the second", w.rest(1, 0), bestB);
    }

    private static int sending(int t) {
        int k = t / 100;
        return 100 * k * k + (200 * k + 100) * (t % 100) / 100;
    }

    private static void rests() {
        WarmSide w = plates(1);
        w.heater(0, 300);
        Due.is("23: without a text there is one", w.rests(0, -1), 1);
        Due.rule(w, "H0:w0>100?1");
        Due.is("23: off stays, on stays", w.rests(0, -1), 2);
        Due.is("23: the first", w.rests(0, 0), 0);
        Due.is("23: the second", w.rests(0, 1), 1);
        Due.is("23: not so many", w.rests(0, 2), -9);
        w.state(0, false, 1);
        Due.is("23: whatever it is now", w.rests(0, -1), 2);
        w.state(0, false, 0);
        Due.rule(w, "H0:w0<200?1;w0>250?0");
        Due.is("23: off does not stay", w.rests(0, -1), 1);
        Due.is("23: on alone", w.rests(0, 0), 1);
        Due.rule(w, "H0:w0>100?0;w0<100?1");
        Due.is("23: none", w.rests(0, -1), 0);
        Due.is("23: not one", w.rests(0, 0), -9);
        w.state(0, false, 3);
        Due.is("23: stuck: as it is", w.rests(0, -1), 1);
        Due.is("23: stuck on is on", w.rests(0, 0), 1);
        w.state(0, false, 2);
        Due.is("23: stuck off is off", w.rests(0, 0), 0);
        w.state(0, false, 0);
        Due.rule(w, "H0:h=3&s=9?0;h=3?1");
        w.sun(3, 9);
        Due.is("23: hour and sun of that hour", w.rests(3, 0), 0);
        Due.is("23: and no other", w.rests(3, -1), 1);
        Due.is("23: no hour", w.rests(12, -2), -1);
        Due.is("23: below", w.rests(0, -2), -4);
        Due.is("23: nothing is changed", w.state(0, false, 0), 0);

        WarmSide v = plates(1);
        for (int k = 0; k < 4; k++) {
            v.heater(0, 100);
            Due.rule(v, "H" + k + ":w0>599?0");
        }
        Due.is("23: of four heaters", v.rests(0, -1), 16);
        Due.is("23: the last by bits", v.rests(0, 15), 15);
        v.state(1, false, 2);
        Due.is("23: of three", v.rests(0, -1), 8);
        Due.is("23: without the one that is stuck", v.rests(0, 2), 4);
        v.state(1, false, 3);
        Due.is("23: stuck on is a bit of each", v.rests(0, 0), 2);
        Due.is("23: and the others vary", v.rests(0, 2), 6);
        Due.is("23: up to all", v.rests(0, 7), 15);
        Due.rule(v, "H0:w0<150?0");
        Due.is("23: one that is stuck on makes heat", v.rests(0, 1), 6);
        Due.is("23: more with it", v.rests(0, 2), 7);
        restsOfOthers();
    }

    /** Heaters that no text rules stay as now, and are bits if they are on. */
    private static void restsOfOthers() {
        WarmSide w = plates(1);
        Due.is("23: no heaters: one rest", w.rests(0, -1), 1);
        Due.is("23: with none on", w.rests(0, 0), 0);
        w.heater(0, 1);
        w.heater(0, 1);
        w.heater(0, 1);
        Due.is("23: all off", w.rests(0, 0), 0);
        w.state(0, false, 1);
        Due.is("23: on without a text", w.rests(0, 0), 1);
        w.state(2, false, 1);
        Due.is("23: two of them", w.rests(0, 0), 5);
        Due.is("23: still one rest", w.rests(0, -1), 1);
        Due.is("23: and no second", w.rests(0, 1), -9);
        Due.rule(w, "H1:w0>599?0");
        Due.is("23: two with a text between", w.rests(0, -1), 2);
        Due.is("23: off between", w.rests(0, 0), 5);
        Due.is("23: on between", w.rests(0, 1), 7);
        w.state(2, false, 0);
        Due.is("23: off without a text", w.rests(0, 1), 3);
    }

    private static void span() {
        WarmSide w = new WarmSide();
        for (int what = 0; what <= 2; what++) {
            Due.is("24: at first", w.span(what, 50), 0);
        }
        Due.is("24: what it was", w.span(1, 0), 50);
        Due.is("24: each by itself", w.span(2, 1), 50);
        Due.is("24: other comes first", w.span(3, -1), -2);
        Due.is("24: other below", w.span(-1, 51), -2);
        Due.is("24: below", w.span(0, -1), -4);
        Due.is("24: above", w.span(0, 51), -6);
    }

    private static void worst() {
        WarmSide w = plates(1);
        w.box(0, 200);
        w.heater(0, 50);
        Due.is("25: no spans: as at rest", w.worst(0, 0, true), w.rest(0, 0));
        w.span(1, 50);
        Due.is("25: watts at most", w.worst(0, 0, true), 166);
        Due.is("25: watts at least", w.worst(0, 0, false), 100);
        w.span(2, 50);
        Due.is("25: sends least", w.worst(0, 0, true), 240);
        Due.is("25: sends 100 at most", w.worst(0, 0, false), 100);
        w.coat(0, 0, true, 60);
        Due.is("25: sends most, below 100", w.worst(0, 0, false), 104);
        w.coat(0, 0, true, 100);
        w.state(0, false, 1);
        Due.is("25: heaters have no span", w.worst(0, 0, false), 116);
        w.state(0, false, 0);
        w.works(0, false);
        w.sun(2, 401);
        w.coat(0, 0, false, 100);
        w.span(2, 0);
        w.span(0, 25);
        Due.is("25: sun at most: 501, cut", w.worst(0, 2, true), 220);
        Due.is("25: sun at least: 300, cut", w.worst(0, 2, false), 166);
        Due.is("25: no plate", w.worst(1, 0, true), -1);
        Due.is("25: no hour", w.worst(0, 12, true), -1);
        Due.is("25: nothing is changed", w.rest(0, 2), 200);
        WarmSide v = plates(1);
        v.box(0, 1);
        v.box(0, 1);
        v.span(1, 50);
        Due.is("25: each box is cut by itself", v.worst(0, 0, true), v.rest(0, 0));
        Due.is("25: of 1 half is none", v.worst(0, 0, false), 0);
    }

    private static void repeat() {
        WarmSide w = plates(1);
        w.coat(0, 0, true, 0);
        Due.is("26: nothing moves", w.repeat(0), 1);
        Due.is("26: as at first", w.repeat(1), 0);
        w.box(0, 1);
        Due.is("26: heat grows for ever", w.repeat(0), -9);
        Due.is("26: never", w.repeat(1), -9);
        Due.is("26: other", w.repeat(2), -2);
        Due.is("26: other below", w.repeat(-1), -2);
        Due.is("26: nothing is changed", w.of(0, 1), 0);
        Due.is("26: no tick passed", w.count(0), 0);

        WarmSide v = plates(1);
        v.coat(0, 0, true, 0);
        v.heater(0, 10);
        Due.rule(v, "H0:w0>58?0");
        v.state(0, false, 1);
        Due.is("26: off in the fifth round: behind it heat and state stay", v.repeat(0), 6);
        Due.is("26: as behind the fifth", v.repeat(1), 5);
        Due.is("26: the heater is as it was", v.state(0, false, 1), 1);
        v.ticks(7);
        Due.is("26: from now on", v.repeat(1), 5);

        WarmSide u = plates(1);
        u.coat(0, 0, true, 0);
        u.heater(0, 1);
        u.flap(0);
        u.state(0, true, 1);
        u.state(0, true, 3);
        Due.rule(u, "H0:w0=0?1;w0>69?0");
        Due.is("26: 60 rounds are tried", u.repeat(0), 60);
        Due.is("26: as behind 59", u.repeat(1), 59);
        Due.rule(u, "H0:w0=0?1;w0>70?0");
        Due.is("26: 61 would be too many", u.repeat(0), -9);
        Due.rule(u, "H0:w0=0?1;w0>69?0");
        u.heat(0, 8);
        Due.is("26: from a heat of 8 a round less", u.repeat(0), 59);
        Due.is("26: a stuck flap stays so", u.of(0, 2), 3);
        Due.is("26: and is as it was", u.undo(), 1);
        Due.is("26: and as it was before", u.of(0, 2), 1);
    }

    /** Trials put back what texts changed in them. */
    private static void trialsChangeNothing() {
        WarmSide w = plates(3);
        w.box(2, 500);
        w.flap(1);
        w.flap(2);
        w.heater(2, 50);
        Due.rule(w, "F1:h=5?0");
        Due.rule(w, "F2:h=5?1");
        Due.rule(w, "H0:h=5?1");
        w.state(2, true, 0);
        w.repeat(0);
        Due.is("26: a flap is open as it was", w.of(1, 2), 2);
        Due.is("26: a flap is shut as it was", w.of(2, 2), 0);
        Due.is("26: a heater is off as it was", w.state(0, false, 0), 0);
        w.marks(2, 0, 90);
        w.work(0);
        Due.is("38: a flap is open as it was", w.of(1, 2), 2);
        Due.is("38: a flap is shut as it was", w.of(2, 2), 0);
        Due.is("38: a heater is off as it was", w.state(0, false, 0), 0);
        Due.is("38: plates without one have none", w.of(0, 2), -9);
        Due.is("38: no heat is left", w.of(2, 1), 0);
    }

    private static void age() {
        WarmSide w = plates(1);
        w.box(0, 300);
        w.coat(0, 4, true, 60);
        w.coat(0, 7, true, 50);
        Due.is("27: the first year", w.age(0, 0, 165, false), 0);
        Due.is("27: not above, but at it", w.age(0, 0, 166, false), 4);
        Due.is("27: later", w.age(0, 0, 230, false), 7);
        Due.is("27: none", w.age(0, 0, 240, false), -9);
        w.span(1, 10);
        Due.is("27: may", w.age(0, 0, 166, false), 0);
        Due.is("27: must", w.age(0, 0, 166, true), 4);
        w.year(7);
        Due.is("27: whatever year it is", w.age(0, 0, 166, true), 4);
        Due.is("27: no plate", w.age(1, 0, -1, true), -1);
        Due.is("27: no hour", w.age(0, 12, 601, true), -1);
        Due.is("27: below", w.age(0, 0, -1, true), -4);
        Due.is("27: above", w.age(0, 0, 601, true), -6);
        Due.is("27: the greatest mark", w.age(0, 0, 600, true), -9);
        Due.is("27: the year stays", w.year(0), 7);
        WarmSide v = plates(1);
        v.sun(3, 300);
        v.coat(0, 2, false, 100);
        Due.is("27: what coats take ages too", v.age(0, 3, 150, false), 2);
        Due.is("27: the least mark", v.age(0, 0, 0, false), -9);
    }

    private static void bolt() {
        WarmSide w = plates(3);
        w.box(0, 400);
        w.joint(0, 1, 1);
        w.joint(0, 1, 99);
        int before = w.rest(0, 0);
        Due.is("28: without the second", w.bolt(1, 0, 0, 1), 171 - before);
        Due.is("28: to the colder one", w.bolt(1, 1, 0, 1) < 0 ? 1 : 0, 1);
        Due.is("28: 99 at most", w.bolt(1, 0, 0, 0), 0);
        Due.is("28: none of the third plate's", w.bolt(0, 2, 0, 1), 0);
        Due.is("28: no joint", w.bolt(2, 0, 0, 2), STAR + 1);
        Due.is("28: no plate", w.bolt(0, 3, 0, 0), STAR + 1);
        Due.is("28: no hour", w.bolt(0, 0, 12, 0), STAR + 1);
        Due.is("28: other", w.bolt(0, 0, 0, 2), STAR + 2);
        Due.is("28: other below", w.bolt(0, 0, 0, -1), STAR + 2);
        Due.is("28: counted", w.count(11), 3);
        Due.is("28: counted too", w.count(12), 2);
        WarmSide v = plates(2);
        v.box(0, 400);
        v.joint(0, 1, 1);
        Due.is("28: as told", v.rest(0, 0), 171);
        Due.is("28: one more", v.bolt(0, 0, 0, 0), -10);
        v.joint(0, 1, 1);
        Due.is("28: it is as if one more were told", v.rest(0, 0), 161);
        Due.is("28: and none less", v.bolt(0, 0, 0, 1), 10);
    }

    private static void matters() {
        WarmSide w = plates(4);
        w.box(0, 500);
        Due.is("29: no joints", w.matters(0, 0), -9);
        w.joint(2, 3, 9);
        Due.is("29: none changes anything", w.matters(0, 0), 0);
        w.joint(0, 1, 2);
        w.joint(0, 2, 5);
        Due.is("29: the one that cools most", w.matters(0, 0), 2);
        Due.is("29: to the plate that it warms", w.matters(1, 0), 1);
        Due.is("29: no plate", w.matters(4, 0), -1);
        Due.is("29: no hour", w.matters(0, 12), -1);
        WarmSide v = plates(3);
        v.box(0, 500);
        v.joint(0, 1, 3);
        v.joint(0, 2, 3);
        Due.is("29: of several the least", v.matters(0, 0), 0);
        WarmSide u = plates(3);
        u.box(0, 900);
        u.joint(0, 1, 1);
        u.joint(0, 2, 2);
        u.joint(1, 2, 1);
        Due.is("29: without a joint of 1 it leads nothing", u.matters(1, 0), 0);
        Due.is("29: nor a joint of 2", u.matters(2, 0), 1);
        Due.is("29: no joints, but no plate first", new WarmSide().matters(0, 0), -1);
    }

    private static void test() {
        WarmSide w = plates(2);
        Due.is("30: the least", w.test(0, 0, 0, 0, 0), 1);
        Due.is("30: the greatest", w.test(1, 999, 1, 600, 99), 2);
        Due.is("30: no plate on", w.test(2, -1, 0, 0, 0), -1);
        Due.is("30: no plate of", w.test(0, 0, -1, 0, 100), -1);
        Due.is("30: watts below", w.test(0, -1, 0, 601, 0), -4);
        Due.is("30: warmth below", w.test(0, 0, 0, -1, 0), -4);
        Due.is("30: doubt below", w.test(0, 0, 0, 0, -1), -4);
        Due.is("30: watts above", w.test(0, 1000, 0, 0, 0), -6);
        Due.is("30: warmth above", w.test(0, 0, 0, 601, 0), -6);
        Due.is("30: doubt above", w.test(0, 0, 0, 0, 100), -6);
        for (int t = 3; t <= 10; t++) {
            Due.is("30: how many", w.test(0, 0, 0, 0, 0), t);
        }
        Due.is("30: no room", w.test(0, 0, 0, 0, 0), -6);
        Due.is("30: no room, but below first", w.test(0, 0, 0, 0, -1), -4);
        Due.is("30: counted", w.count(6), 10);
    }

    private static void fits() {
        WarmSide w = plates(2);
        w.joint(0, 1, 99);
        Due.is("31: without tests all fit", w.fits(0, 0), 40);
        Due.is("31: the least", w.fits(0, 1), 1);
        Due.is("31: the greatest", w.fits(0, 2), 40);
        w.test(0, 400, 0, 161, 0);
        Due.is("31: only leads of 2", w.fits(0, 0), 1);
        Due.is("31: the least of it", w.fits(0, 1), 2);
        Due.is("31: the greatest of it", w.fits(0, 2), 2);
        w.sun(0, 999);
        w.box(1, 900);
        w.heater(0, 900);
        w.state(0, false, 3);
        w.flap(0);
        w.state(0, true, 0);
        Due.is("31: no sun, box, heater; flap open", w.fits(0, 1), 2);
        w.state(0, true, 3);
        Due.is("31: open though it is stuck", w.fits(0, 1), 2);
        w.test(0, 400, 0, 161, 18);
        Due.is("31: each test has to fit", w.fits(0, 0), 1);
        w.test(0, 400, 0, 160, 0);
        Due.is("31: none", w.fits(0, 0), 0);
        Due.is("31: no least", w.fits(0, 1), -9);
        Due.is("31: no greatest", w.fits(0, 2), -9);
        Due.is("31: no joint", w.fits(1, 3), -1);
        Due.is("31: other", w.fits(0, 3), -2);
        Due.is("31: other below", w.fits(0, -1), -2);
        WarmSide u = plates(2);
        u.joint(0, 1, 50);
        u.coat(0, 0, false, 100);
        u.test(1, 400, 0, 85, 0);
        Due.is("31: the box on the other plate", u.fits(0, 0), 1);
        Due.is("31: leads of 1", u.fits(0, 2), 1);
        WarmSide v = plates(2);
        v.joint(0, 1, 50);
        v.test(0, 400, 0, 166, 5);
        Due.is("31: by the doubt, both ends in", v.fits(0, 0), 2);
        Due.is("31: from", v.fits(0, 1), 1);
        Due.is("31: to", v.fits(0, 2), 2);
    }

    private static void place() {
        WarmSide w = plates(3);
        w.box(0, 300);
        w.box(0, 200);
        w.box(1, 100);
        Due.is("32: as they stand", w.place(0, 0, 7, 0), w.rest(0, 0));
        Due.is("32: no first box", w.place(0, 0, 7, 1), -9);
        Due.is("32: all apart", w.place(0, 7, 7, 0), 166);
        Due.is("32: the first by boxes in order", w.place(0, 7, 7, 1), 0);
        Due.is("32: the second", w.place(0, 7, 7, 2), 1);
        Due.is("32: the third", w.place(0, 7, 7, 3), 2);
        Due.is("32: the others stay", w.place(0, 1, 7, 1), 2);
        Due.is("32: of those plates only", w.place(0, 1, 3, 1), 1);
        Due.is("32: 400 there", w.place(0, 1, 3, 0), 200);
        Due.is("32: none two of these", w.place(0, 3, 4, 0), -9);
        Due.is("32: no place", w.place(0, 3, 4, 1), -9);
        Due.is("32: as many as there are", w.place(0, 3, 7, 3), -9);
        w.works(0, false);
        Due.is("32: a box that does not work makes nothing", w.place(0, 1, 2, 0), 133);
        Due.is("32: no hour", w.place(12, 0, 0, 0), -1);
        Due.is("32: a set with others", w.place(0, 8, 7, 9), -1);
        Due.is("32: a set of plates with others", w.place(0, 1, 8, 0), -1);
        Due.is("32: sets below", w.place(0, -1, 7, 0), -1);
        Due.is("32: sets of plates below", w.place(0, 1, Integer.MIN_VALUE, 0), -1);
        Due.is("32: other", w.place(0, 1, 7, 4), -2);
        Due.is("32: other below", w.place(0, 1, 7, -1), -2);
        w.box(2, 5);
        Due.is("32: other comes ahead of more than 3", w.place(0, 15, 7, 4), -2);
        Due.is("32: more than 3", w.place(0, 15, 7, 0), -6);
        Due.is("32: nothing is changed", w.place(0, 0, 0, 0), w.rest(0, 0));
        Due.is("32: no plates at all", new WarmSide().place(0, 0, 0, 0), 0);
    }

    private static void marks() {
        WarmSide w = plates(1);
        Due.is("33: told", w.marks(0, 0, 0), 1);
        Due.is("33: to the end", w.marks(0, 600, 600), 1);
        Due.is("33: most below least", w.marks(0, 5, 4), -4);
        Due.is("33: most below least, though above", w.marks(0, 700, 650), -4);
        Due.is("33: below", w.marks(0, -1, 4), -4);
        Due.is("33: most below", w.marks(0, 0, -1), -4);
        Due.is("33: above", w.marks(0, 0, 601), -6);
        Due.is("33: both above", w.marks(0, 601, 601), -6);
        Due.is("33: no plate", w.marks(1, 5, 4), -1);
        Due.is("33: nothing changed", w.of(0, 3), 600);
    }

    private static void fails() {
        WarmSide w = plates(3);
        w.heater(0, 300);
        w.heater(1, 300);
        w.state(1, false, 1);
        Due.is("34: none is outside", w.fails(0, true, 0), -9);
        w.marks(1, 166, 166);
        Due.is("34: at both its marks", w.fails(0, true, 0), -9);
        w.marks(0, 0, 165);
        Due.is("34: above its most", w.fails(0, true, 0), 0);
        Due.is("34: off it is not", w.fails(0, false, 0), -9);
        Due.is("34: below its least", w.fails(1, false, 0), 1);
        w.marks(2, 1, 600);
        Due.is("34: the first of several", w.fails(1, false, 0), 1);
        Due.is("34: the last", w.fails(0, false, 0), 2);
        w.state(0, false, 3);
        Due.is("34: whatever it was stuck to", w.fails(0, false, 0), 2);
        w.sun(3, 2);
        w.face(1, 0);
        Due.is("34: by the hour", w.fails(0, false, 3), -9);
        Due.is("34: no heater", w.fails(2, true, 0), -1);
        Due.is("34: no hour", w.fails(0, true, 12), -1);
        Due.is("34: nothing is changed", w.state(0, false, 3), 3);
    }

    private static void freeze() {
        WarmSide w = new WarmSide();
        Due.is("35: at first", w.freeze(600), 200);
        Due.is("35: what it was", w.freeze(0), 600);
        Due.is("35: below", w.freeze(-1), -4);
        Due.is("35: above", w.freeze(601), -6);
        Due.is("35: nothing changed", w.freeze(1), 0);
    }

    /** Three plates in a row with weak joints; the pipe of the farther two is number 0; both pipes are frozen. */
    private static WarmSide row() {
        WarmSide w = plates(3);
        w.pipe(1, 2, 20);
        w.pipe(0, 1, 20);
        w.box(0, 900);
        w.joint(0, 1, 1);
        w.joint(1, 2, 1);
        w.frozen(0, true);
        w.frozen(1, true);
        return w;
    }

    private static void thaws() {
        WarmSide w = row();
        int third = w.rest(2, 0);
        int second = w.rest(1, 0);
        Due.holds("36: the third is the coldest", third < second);
        w.freeze(second + 1);
        Due.is("36: none may", w.thaws(0, 0), -9);
        w.freeze(second);
        Due.is("36: the second pipe may", w.thaws(0, 0), 1);
        Due.is("36: then the first does not", w.thaws(0, 1), -9);
        w.freeze(third + 1);
        Due.is("36: the second pipe is the first again", w.thaws(0, 0), 1);
        Due.is("36: what it led warms the third plate", w.thaws(0, 1), 0);
        Due.is("36: no third", w.thaws(0, 2), -9);
        w.freeze(third);
        Due.is("36: the least that may", w.thaws(0, 0), 0);
        Due.is("36: and then the other", w.thaws(0, 1), 1);
        Due.is("36: far behind", w.thaws(0, Integer.MAX_VALUE), -9);
        Due.is("36: nothing is changed", w.frozen(0, true), 0);
        Due.is("36: no hour", w.thaws(12, -1), -1);
        Due.is("36: below", w.thaws(0, -1), -4);
        WarmSide v = plates(2);
        for (int k = 0; k < 8; k++) {
            v.pipe(0, 1, 1);
            v.frozen(k, true);
        }
        v.freeze(0);
        Due.is("36: the last of eight", v.thaws(0, 7), 7);
        Due.is("36: no ninth", v.thaws(0, 8), -9);
        Due.is("36: no pipes", new WarmSide().thaws(0, 0), -9);
    }

    private static void thaw() {
        WarmSide w = row();
        Due.is("37: acts before", w.count(8), 2);
        w.undo();
        w.frozen(1, true);
        Due.is("37: no hour", w.thaw(12), -1);
        Due.is("37: a refusal forgets nothing", w.count(8), 2);
        w.freeze(w.rest(1, 0));
        Due.is("37: one may", w.thaw(0), 1);
        Due.is("37: it is not frozen", w.frozen(1, false), 0);
        Due.is("37: the other is", w.frozen(0, true), 0);
        Due.is("37: acts are forgotten", w.count(8), 0);
        Due.is("37: none may", w.thaw(0), 0);
        w.freeze(0);
        Due.is("37: now it may", w.thaw(0), 1);
        Due.is("37: undone is nothing", w.undo(), -3);
        WarmSide u = plates(2);
        u.pipe(0, 1, 1);
        u.frozen(0, true);
        u.sun(3, 999);
        u.freeze(1);
        u.rest(0, 3);
        Due.is("37: not in an hour without sun", u.thaw(0), 0);
        Due.is("37: but in one with it", u.thaw(3), 1);
        WarmSide v = row();
        v.freeze(v.rest(2, 0) + 1);
        Due.is("37: both, one by the other", v.thaw(0), 2);
        v.frozen(0, true);
        v.undo();
        v.freeze(600);
        Due.is("37: none", v.thaw(0), 0);
        Due.is("37: a thaw forgets what may be done again", v.redo(), -3);
    }

    private static void work() {
        WarmSide w = plates(1);
        w.coat(0, 0, true, 0);
        w.box(0, 100);
        Due.is("38: always", w.work(0), 4095);
        w.marks(0, 0, 50);
        Due.is("38: five hours, the least as bits", w.work(0), 31);
        w.ticks(1);
        Due.is("38: from the heat that it has, from hour 0", w.work(0), 15);
        w.works(0, false);
        Due.is("38: whether it works now or not", w.work(0), 15);
        w.heat(0, 510);
        Due.is("38: too warm at once", w.work(0), -9);
        w.heat(0, 509);
        Due.is("38: never", w.work(0), 0);
        w.heat(0, 0);
        w.box(0, 20);
        Due.is("38: the other box works too", w.work(0), 3);
        Due.is("38: no box", w.work(2), -1);
        Due.is("38: no box below", w.work(-1), -1);
        Due.is("38: nothing is changed", w.works(0, false), 0);
        Due.is("38: nor heat", w.of(0, 1), 0);

        WarmSide v = plates(1);
        v.coat(0, 0, true, 0);
        v.coat(0, 0, false, 100);
        v.box(0, 100);
        v.heater(0, 200);
        v.marks(0, 0, 50);
        Due.rule(v, "H0:h=1?1;h=2?0");
        Due.is("38: texts rule in the round: 200 in hour 1", v.work(0), 7);
        v.sun(11, 100);
        Due.is("38: the sun of hour 11 too", v.work(0), 3);
        v.state(0, false, 2);
        Due.is("38: but not what is stuck", v.work(0), 15);
        Due.is("38: states are as they were", v.state(0, false, 2), 2);
        WarmSide u = plates(1);
        u.box(0, 700);
        u.marks(0, 0, 100);
        Due.is("38: twice, behind seven hours in which it cools", u.work(0), 1 + 256);
    }

    private static void share() {
        WarmSide w = plates(1);
        w.sun(0, 200);
        w.box(0, 200);
        w.heater(0, 200);
        w.state(0, false, 1);
        Due.is("39: sun first: of 100", w.share(0, 0, 0, false), 100);
        Due.is("39: boxes then: to 300", w.share(0, 0, 1, false), 66);
        Due.is("39: heaters last: to 500", w.share(0, 0, 2, false), 54);
        int sum = 0;
        for (int cause = 0; cause <= 2; cause++) {
            sum += w.share(0, 0, cause, true);
        }
        Due.is("39: all of it, six times", sum, 6 * w.rest(0, 0));
        Due.is("39: boxes and heaters are alike", w.share(0, 0, 1, true), w.share(0, 0, 2, true));
        Due.is("39: sun by all", w.share(0, 0, 0, true), 2 * 100 + 33 + 33 + 2 * 20);
        Due.is("39: no sun in hour 1", w.share(0, 1, 0, true), 0);
        WarmSide v = new WarmSide();
        v.plate(1, 20, 0);
        Due.is("39: nothing at all", v.share(0, 0, 0, false), 0);
        v.sun(0, 999);
        Due.is("39: from none of it", v.share(0, 0, 0, false), v.rest(0, 0));
        Due.is("39: no plate", w.share(1, 0, 3, true), STAR + 1);
        Due.is("39: no hour", w.share(0, 12, 0, false), STAR + 1);
        Due.is("39: other", w.share(0, 0, 3, false), STAR + 2);
        Due.is("39: other below", w.share(0, 0, -1, true), STAR + 2);
        Due.is("39: counted", w.count(11), 2);
        Due.is("39: counted too", w.count(12), 2);
    }

    private static void undo() {
        WarmSide w = plates(2);
        w.pipe(0, 1, 1);
        w.box(0, 1);
        w.heater(0, 1);
        w.flap(1);
        Due.is("40: none", w.undo(), -3);
        Due.is("40: counted", w.count(13), 1);
        w.works(0, false);
        w.state(0, false, 1);
        w.state(1, true, 0);
        w.state(1, true, 3);
        w.frozen(0, true);
        w.face(1, 0);
        w.face(1, 0);
        w.heat(0, 5);
        w.marks(0, 1, 2);
        Due.is("40: acts that changed something", w.count(8), 6);
        Due.is("40: the latest", w.undo(), 1);
        Due.is("40: its face is as it was", w.face(1, 2), 2);
        w.undo();
        Due.is("40: the pipe is as it was", w.frozen(0, false), 0);
        w.undo();
        Due.is("40: the flap is as it was", w.of(1, 2), 0);
        w.undo();
        Due.is("40: the flap is as it was before", w.of(1, 2), 2);
        w.undo();
        Due.is("40: the heater is as it was", w.state(0, false, 0), 0);
        w.undo();
        Due.is("40: the box is as it was", w.works(0, true), 0);
        Due.is("40: none is left", w.undo(), -3);
        Due.is("40: heat is no act", w.of(0, 1), 5);

        WarmSide v = plates(1);
        for (int i = 0; i < 61; i++) {
            v.face(0, i % 3);
        }
        Due.is("40: 60 at most", v.count(8), 60);
        for (int i = 59; i >= 0; i--) {
            Due.is("40: back", v.undo(), 1);
        }
        Due.is("40: the oldest is gone", v.undo(), -3);
        Due.is("40: so its face stays", v.face(0, 1), 0);

        WarmSide u = plates(1);
        u.flap(0);
        u.heat(0, 1060);
        u.state(0, true, 1);
        u.state(0, true, 3);
        u.state(0, true, 2);
        u.undo();
        u.ticks(1);
        Due.is("40: stuck again as it was", u.sum(2), 59);
        Due.is("40: a tick forgets", u.undo(), -3);
    }

    /** Acts of each kind on the last of each: what is undone and done again is that and nothing else. */
    private static void actsApart() {
        WarmSide w = plates(8);
        w.sun(0, 200);
        for (int k = 0; k < 8; k++) {
            w.box(k, 100 + 50 * k);
            w.pipe(k, (k + 1) % 8, 1);
            w.flap(k);
            w.heater(k, 150);
        }
        String[] seen = new String[7];
        seen[0] = states(w);
        w.works(7, false);
        seen[1] = states(w);
        w.state(3, false, 3);
        seen[2] = states(w);
        w.state(7, true, 1);
        seen[3] = states(w);
        w.state(7, true, 3);
        seen[4] = states(w);
        w.frozen(7, true);
        seen[5] = states(w);
        w.face(7, 1);
        seen[6] = states(w);
        for (int i = 5; i >= 0; i--) {
            Due.is("40: undone", w.undo(), 1);
            Due.holds("40: as it was with " + i, states(w).equals(seen[i]));
            Due.holds("40: not as it was before", !seen[i].equals(seen[i + 1]));
        }
        for (int i = 1; i <= 6; i++) {
            Due.is("41: done again", w.redo(), 1);
            Due.holds("41: as it was with " + i, states(w).equals(seen[i]));
        }
        for (int i = 0; i < 60; i++) {
            w.face(i % 8, i / 8 % 2 == 0 ? 0 : 2);
        }
        String last = states(w);
        Due.is("40: 60 of 66 are kept", w.count(8), 60);
        for (int i = 0; i < 60; i++) {
            Due.is("40: one of 60", w.undo(), 1);
        }
        Due.holds("40: as before them", states(w).equals(seen[6]));
        for (int i = 0; i < 60; i++) {
            Due.is("41: one of 60", w.redo(), 1);
        }
        Due.holds("41: as behind them", states(w).equals(last));
    }

    /** What acts change, seen by answers that change nothing. */
    private static String states(WarmSide w) {
        StringBuilder b = new StringBuilder();
        for (int k = 0; k < 8; k++) {
            b.append(w.rest(k, 0)).append(' ');
        }
        b.append(w.of(7, 2));
        return b.toString();
    }

    private static void redo() {
        WarmSide w = plates(1);
        w.box(0, 1);
        Due.is("41: none", w.redo(), -3);
        w.face(0, 1);
        w.face(0, 0);
        w.works(0, false);
        Due.is("41: none was undone", w.redo(), -3);
        w.undo();
        w.undo();
        Due.is("41: two of three", w.count(8), 1);
        Due.is("41: again", w.redo(), 1);
        Due.is("41: its face", w.face(0, 0), 0);
        Due.is("41: what changes nothing does not come behind", w.redo(), 1);
        Due.is("41: the box", w.works(0, false), 0);
        Due.is("41: all three", w.count(8), 3);
        Due.is("41: no more", w.redo(), -3);
        w.undo();
        w.undo();
        w.face(0, 2);
        Due.is("41: one came behind", w.redo(), -3);
        w.undo();
        Due.is("41: that one may", w.redo(), 1);
        w.undo();
        w.ticks(1);
        Due.is("41: a tick forgets", w.redo(), -3);
        Due.is("41: counted", w.count(13), 5);
    }

    private static void count() {
        WarmSide w = plates(3);
        w.joint(0, 1, 1);
        w.joint(0, 1, 1);
        w.pipe(0, 1, 1);
        w.box(0, 1);
        w.box(0, 1);
        w.heater(0, 1);
        w.test(0, 0, 0, 0, 0);
        w.feed(5, 0);
        w.ticks(7);
        w.face(0, 1);
        int[] due = {7, 3, 2, 1, 2, 1, 1, 5, 1, -9, -9, 0, 0, 0, 0, 0, 0, -9};
        for (int what = 0; what < due.length; what++) {
            Due.is("42: count(" + what + ")", w.count(what), due[what]);
        }
        Due.is("42: below", w.count(-1), -9);
        Due.is("42: far", w.count(Integer.MAX_VALUE), -9);
        w.of(9, 0);
        w.of(0, 9);
        w.of(0, 9);
        for (int i = 0; i < 3; i++) {
            w.redo();
        }
        for (int i = 0; i < 4; i++) {
            w.freeze(-1);
        }
        for (int i = 0; i < 6; i++) {
            w.freeze(700);
        }
        int[] refused = {1, 2, 3, 4, 0, 6};
        for (int i = 0; i < 6; i++) {
            Due.is("42: refusals of " + (-1 - i), w.count(11 + i), refused[i]);
        }
        w.repeat(0);
        w.matters(0, 0);
        w.thaws(0, 7);
        Due.is("42: -9 is none of them", w.count(11) + w.count(12) + w.count(13), 6);
    }
}
