/** The ends that the document names of what is asked: rests, worst ones, rounds, years, bolts, tests, places, hours. */
public final class AskedEdgesTest {
    private AskedEdgesTest() {
    }

    public static void main(String[] args) {
        restAlone();
        restOfNothing();
        restJoined();
        restAsNow();
        rests();
        restsAtMarks();
        restsByFour();
        restsOfSome();
        spans();
        worstSun();
        worstWatts();
        worstSends();
        repeats();
        repeatsByStates();
        repeatsWhenLate();
        ages();
        bolts();
        matters();
        tests();
        fits();
        fitsInCan();
        places();
        placesFirst();
        marks();
        fails();
        freezes();
        thaws();
        thawsInTurn();
        workHours();
        workFromHourZero();
        workNotAtOnce();
        workLeastBits();
        workByTrying();
        shares();
        hours();
        Due.end();
    }

    private static WarmSide heated(int watts) {
        WarmSide w = Made.plates(1);
        for (int left = watts, b = 0; b < 8; b++) {
            w.box(0, Math.min(999, left));
            left -= Math.min(999, left);
        }
        return w;
    }

    /** Watts and warmth: the greatest at which no more is sent than that, 600 at most. */
    private static void restAlone() {
        int[][] rows = {
            {0, 0}, {1, 1}, {2, 2}, {99, 99}, {100, 100}, {102, 100}, {103, 101}, {396, 198}, {397, 199}, {399, 199},
            {400, 200}, {404, 200}, {405, 201}, {3588, 598}, {3589, 599}, {3599, 599}, {3600, 600}, {3601, 600}, {7992, 600},
        };
        for (int[] row : rows) {
            Due.is("22: rest with " + row[0], heated(row[0]).rest(0, 0), row[1]);
        }
        WarmSide w = new WarmSide();
        w.plate(1, 20, 0);
        w.coat(0, 0, true, 0);
        Due.is("22: what sends nothing rests at 600", w.rest(0, 0), 600);
        w.coat(0, 0, true, 1);
        Due.is("22: a hundredth, cut, is nothing up to 4", w.rest(0, 0), 4);
        Due.is("22: mass is nothing to it", w.of(0, 1), 0);
    }

    /** At 0 a plate may lose. */
    private static void restOfNothing() {
        WarmSide w = Made.plates(2);
        w.point(0, 50);
        Due.is("22: nothing comes, 50 go", w.rest(0, 0), 0);
        w.box(0, 49);
        Due.is("22: 49 come, 50 go", w.rest(0, 0), 0);
        w.box(0, 1);
        Due.is("22: 50 come, 50 go, 51 at 2", w.rest(0, 0), 1);
        w.box(0, 1);
        Due.is("22: 51 come, 51 go at 2, 52 at 4", w.rest(0, 0), 3);
        w.joint(0, 1, 5);
        Due.is("22: it leads to one at 0", w.rest(0, 0), 0);
        Due.is("22: which stays at 0", w.rest(1, 0), 0);
        for (int k = 1; k <= 6; k++) {
            w.point(k, 9999);
        }
        for (int k = 6; k >= 0; k--) {
            w.point(k, 9999);
        }
        Due.is("22: all sends too much", w.rest(0, 0), 0);
    }

    /** Led in counts as made, led out as sent: at the edge no less is enough. */
    private static void restJoined() {
        for (int watts = 0; watts <= 30; watts++) {
            WarmSide w = Made.keeperAndSink();
            w.box(0, watts);
            w.joint(0, 1, 10);
            Due.is("22: by a joint of 10 with " + watts, w.rest(0, 0), watts / 10);
            Due.is("22: to one at 0", w.rest(1, 0), 0);
        }
        WarmSide w = Made.keeperAndSink();
        w.box(0, 20);
        w.pipe(0, 1, 10);
        Due.is("22: by a pipe from it", w.rest(0, 0), 2);
        w.frozen(0, true);
        Due.is("22: by none", w.rest(0, 0), 600);
        w.pipe(1, 0, 10);
        Due.is("22: by a pipe to it", w.rest(0, 0), 600);
        w.joint(0, 1, 1);
        Due.is("22: which leads nothing from a colder one", w.rest(0, 0), 20);
        aDegreeByPipe(0, 1);
        aDegreeByPipe(1, 0);
        WarmSide v = Made.plates(8);
        v.box(7, 999);
        for (int p = 0; p < 7; p++) {
            v.joint(p, p + 1, 99);
        }
        int warmest = v.rest(7, 0);
        for (int p = 6; p >= 0; p--) {
            Due.holds("22: colder from plate to plate", v.rest(p, 0) <= warmest);
            warmest = v.rest(p, 0);
        }
        Due.holds("22: but warm", warmest > 50);
    }

    /** A plate that keeps 10 and a pipe that leads 10 for a degree, to one that sends 10 at 10. */
    private static void aDegreeByPipe(int from, int to) {
        WarmSide w = new WarmSide();
        w.plate(1, 1, from);
        w.plate(1, 1, to);
        w.coat(0, 0, true, 0);
        w.coat(1, 0, true, 100);
        w.box(from, 10);
        w.pipe(from, to, 10);
        Due.is("22: a degree warmer than", w.rest(from, 0), 11);
        Due.is("22: one that sends what it is led", w.rest(to, 0), 10);
    }

    private static void restAsNow() {
        WarmSide w = heated(400);
        w.heat(0, 59999);
        Due.is("22: heat is nothing to it", w.rest(0, 0), 200);
        w.works(0, false);
        Due.is("22: a box that does not work", w.rest(0, 0), 0);
        w.heater(0, 400);
        for (int s = 0; s <= 3; s++) {
            w.state(0, false, s);
            Due.is("22: a heater of state " + s, w.rest(0, 0), s % 2 == 1 ? 200 : 0);
        }
        Due.rule(w, "H0:h<12?0");
        w.state(0, false, 1);
        Due.is("22: states as now, whatever its text tells", w.rest(0, 0), 200);
        w.state(0, false, 0);
        w.coat(0, 0, false, 100);
        w.sun(11, 400);
        Due.is("22: in the last hour", w.rest(0, 11), 200);
        Due.is("22: in the one ahead", w.rest(0, 10), 0);
        w.face(0, 1);
        Due.is("22: half", w.rest(0, 11), 133);
        w.face(0, 0);
        Due.is("22: not at all", w.rest(0, 11), 0);
        w.face(0, 2);
        w.year(1);
        Due.is("22: coats as of the year", w.rest(0, 11), 133);
    }

    /** Four heaters whose texts let all states be. */
    private static void rests() {
        WarmSide w = Made.plates(1);
        for (int n = 0; n <= 4; n++) {
            for (int h = 0; h <= 11; h += 11) {
                Due.is("23: how many of " + n, w.rests(h, -1), 1 << n);
                for (int i = 0; i < 1 << n; i++) {
                    Due.is("23: rising", w.rests(h, i), i);
                }
                Due.is("23: not so many", w.rests(h, 1 << n), -9);
                Due.is("23: far behind", w.rests(h, Integer.MAX_VALUE), -9);
            }
            if (n == 4) break;
            w.heater(0, 100);
            Due.is("23: a heater without a text is none more", w.rests(0, -1), 1 << n);
            Due.rule(w, "H" + n + ":h=99?0");
        }
        Due.is("23: below", w.rests(0, -2), -4);
        Due.is("23: -9 is not counted", w.count(11) + w.count(12) + w.count(13) + w.count(16), 0);
    }

    /** A heater of 300: at 166 if on, at 0 if off. */
    private static void restsAtMarks() {
        WarmSide w = Made.plates(1);
        w.heater(0, 300);
        String[] texts = {
            "w0<166?1;w0>165?0", "", "w0<167?1;w0>166?0", "1", "w0=166?1;w0=0?0", "01", "w0=166?0;w0=0?1", "",
            "w0=166?1;w0=0?1", "1", "w0>165?0;w0<166?0", "0", "w0=1?0;w0=165?0", "01", "w0=166?0", "0", "w0=0?1", "1",
            "w0=0?0;w0=0?1", "01", "h=0?1", "1", "h=1?1", "01", "s=7?1", "1", "s=0?1", "01",
        };
        w.sun(0, 7);
        w.face(0, 0);
        for (int i = 0; i + 1 < texts.length; i += 2) {
            Due.rule(w, "H0:" + texts[i]);
            String due = texts[i + 1];
            for (int s = 0; s <= 1; s++) {
                w.state(0, false, s);
                Due.is("23: how many by " + texts[i], w.rests(0, -1), due.length());
                for (int k = 0; k < 2; k++) {
                    int bits = k < due.length() ? due.charAt(k) - '0' : -9;
                    Due.is("23: number " + k + " by " + texts[i], w.rests(0, k), bits);
                }
            }
        }
    }

    /** Each of four heaters by its own text: all but the one row of states that they tell falls away. */
    private static void restsByFour() {
        for (int due = 0; due < 16; due++) {
            WarmSide w = Made.plates(1);
            for (int k = 0; k < 4; k++) {
                w.heater(0, 10);
                Due.rule(w, "H" + k + ":h<12?" + (due >> k & 1));
            }
            Due.is("23: one alone", w.rests(0, -1), 1);
            Due.is("23: as they tell", w.rests(0, 0), due);
            Due.is("23: no other", w.rests(0, 1), -9);
            Due.rule(w, "H3:h=99?0");
            Due.is("23: the last may stay off", w.rests(0, 0), due & 7);
            Due.is("23: or on", w.rests(0, 1), due | 8);
        }
        WarmSide w = Made.plates(1);
        for (int k = 0; k < 4; k++) {
            w.heater(0, 100);
            Due.rule(w, "H" + k + ":w0>199?0");
        }
        Due.is("23: three of 100 are 166, four are 200", w.rests(0, -1), 15);
        Due.is("23: the greatest of three", w.rests(0, 14), 14);
    }

    /** Stuck heaters and those without a text stay, and are bits if they are on; flaps stay as now. */
    private static void restsOfSome() {
        WarmSide w = Made.plates(1);
        for (int k = 0; k < 4; k++) {
            w.heater(0, 100);
        }
        Due.rule(w, "H0:h=99?0");
        Due.rule(w, "H2:h=99?0");
        for (int state = 0; state <= 3; state++) {
            w.state(1, false, state);
            int bit = state % 2 == 1 ? 2 : 0;
            Due.is("23: two vary", w.rests(0, -1), 4);
            Due.is("23: none of them on", w.rests(0, 0), bit);
            Due.is("23: one of them on", w.rests(0, 1), bit + 1);
            Due.is("23: the other one on", w.rests(0, 2), bit + 4);
            Due.is("23: both on", w.rests(0, 3), bit + 5);
            Due.is("23: no fifth", w.rests(0, 4), -9);
        }
        for (int state = 2; state <= 3; state++) {
            w.state(2, false, state);
            Due.is("23: a text does not vary one that is stuck", w.rests(0, -1), 2);
            Due.is("23: off", w.rests(0, 0), state == 2 ? 2 : 6);
            Due.is("23: on", w.rests(0, 1), state == 2 ? 3 : 7);
        }
        WarmSide v = Made.plates(1);
        v.heater(0, 100);
        v.flap(0);
        Due.rule(v, "F0:h<12?0");
        Due.rule(v, "H0:w0=100?1;w0=0?0");
        Due.is("23: the flap stands open as now", v.rests(0, -1), 2);
        v.state(0, true, 0);
        Due.rule(v, "H0:w0=220?1;w0=0?0");
        Due.is("23: the flap is shut as now", v.rests(0, 1), 1);
        Due.rule(v, "H0:w0=220?0;w0=0?0");
        Due.is("23: at 220 it would be off", v.rests(0, -1), 1);
    }

    private static void spans() {
        WarmSide w = new WarmSide();
        for (int what = 0; what <= 2; what++) {
            Due.is("24: at first", w.span(what, 50), 0);
            Due.is("24: the greatest", w.span(what, 0), 50);
            Due.is("24: the least", w.span(what, 1 + what), 0);
            Due.is("24: above", w.span(what, 51), -6);
            Due.is("24: below", w.span(what, -1), -4);
        }
        for (int what = 0; what <= 2; what++) {
            Due.is("24: each by itself", w.span(what, 0), 1 + what);
        }
        Due.is("24: other", w.span(3, 0), -2);
        Due.is("24: other below", w.span(-1, 0), -2);
    }

    /** Sun, span, what it is at most and at least, cut; the plate takes and sends all of it. */
    private static void worstSun() {
        int[][] rows = {
            {1, 50, 1, 0}, {2, 50, 3, 1}, {3, 33, 3, 2}, {99, 1, 99, 98}, {100, 1, 101, 99}, {0, 50, 0, 0}, {999, 50, 1498, 499},
            {999, 0, 999, 999},
        };
        for (int[] row : rows) {
            WarmSide w = Made.plates(1);
            w.coat(0, 0, false, 100);
            w.sun(11, row[0]);
            w.span(0, row[1]);
            Due.is("25: sun at most", w.worst(0, 11, true), heated(row[2]).rest(0, 0));
            Due.is("25: sun at least", w.worst(0, 11, false), heated(row[3]).rest(0, 0));
            Due.is("25: in another hour", w.worst(0, 0, true), 0);
            Due.is("25: at rest it is as told", w.rest(0, 11), heated(row[0]).rest(0, 0));
        }
        WarmSide w = new WarmSide();
        w.plate(1, 20, 0);
        w.coat(0, 0, false, 1);
        w.coat(0, 0, true, 1);
        w.sun(0, 99);
        w.span(0, 1);
        Due.is("25: sun is cut ahead of what is taken", w.worst(0, 0, true), w.rest(0, 0));
    }

    private static void worstWatts() {
        int[][] rows = {{1, 50, 1, 0}, {2, 50, 3, 1}, {3, 33, 3, 2}, {99, 1, 99, 98}, {0, 50, 0, 0}, {999, 50, 1498, 499}};
        for (int[] row : rows) {
            WarmSide w = Made.plates(1);
            w.box(0, row[0]);
            w.span(1, row[1]);
            Due.is("25: watts at most", w.worst(0, 0, true), heated(row[2]).rest(0, 0));
            Due.is("25: watts at least", w.worst(0, 0, false), heated(row[3]).rest(0, 0));
        }
        WarmSide w = Made.plates(1);
        for (int b = 0; b < 8; b++) {
            w.box(0, 1);
        }
        w.span(1, 50);
        Due.is("25: eight of 1 are eight at most", w.worst(0, 0, true), 8);
        Due.is("25: and none at least", w.worst(0, 0, false), 0);
        w.works(7, false);
        Due.is("25: of those that work", w.worst(0, 0, true), 7);
        w.heater(0, 100);
        w.state(0, false, 1);
        Due.is("25: heaters as told, at least", w.worst(0, 0, false), 100);
        w.state(0, false, 3);
        Due.is("25: stuck on, at least", w.worst(0, 0, false), 100);
    }

    /** What a coat sends is least for hot, most for cold, 100 at most. */
    private static void worstSends() {
        WarmSide w = heated(99);
        w.span(2, 50);
        for (int sends : new int[] {100, 67, 66, 3, 2, 1, 0}) {
            w.coat(0, 0, true, sends);
            Due.is("25: sends least of " + sends, w.worst(0, 0, true), coldest(99, sends * 50 / 100));
            Due.is("25: sends most of " + sends, w.worst(0, 0, false), coldest(99, Math.min(100, sends * 150 / 100)));
        }
        w.coat(0, 0, true, 67);
        Due.is("25: 67 is 100 at most", w.worst(0, 0, false), 99);
        w.coat(0, 0, true, 66);
        Due.is("25: 66 is 99", w.worst(0, 0, false), 100);
        w.coat(0, 0, true, 100);
        Due.is("25: 100 stays 100", w.worst(0, 0, false), 99);
        w.coat(0, 0, true, 1);
        Due.is("25: 1 is 0 at least", w.worst(0, 0, true), 600);
        w.span(2, 0);
        Due.is("25: without a span as told", w.worst(0, 0, true), w.rest(0, 0));
    }

    /** The greatest warmth at which so many hundredths of the first table's sending are not above watts. */
    private static int coldest(int watts, int sends) {
        int t = 600;
        while (t > 0 && Made.sending(t) * sends / 100 > watts) {
            t--;
        }
        return t;
    }

    /** A plate that sends 100 a tick whatever its warmth, with a heater of 150. */
    private static WarmSide swinging() {
        WarmSide w = Made.plates(1);
        w.point(0, 100);
        for (int k = 2; k <= 6; k++) {
            w.point(k, 100);
        }
        w.heater(0, 150);
        return w;
    }

    private static void repeats() {
        WarmSide w = swinging();
        Due.rule(w, "H0:h=0&w0>50?0;h=0?1");
        Due.is("26: on in one round, off in the next", w.repeat(0), 2);
        Due.is("26: as now", w.repeat(1), 0);
        w.ticks(6);
        Due.is("26: from the middle of a round", w.repeat(0), 2);
        Due.is("26: as now too", w.repeat(1), 0);
        Due.is("26: nothing has changed", w.of(0, 1), 300);
        WarmSide v = Made.plates(1);
        v.heat(0, 5);
        Due.is("26: it cools in the first round", v.repeat(0), 1);
        Due.is("26: 5 at warmth 0 send nothing", v.repeat(1), 0);
        v.heat(0, 15);
        Due.is("26: 15 do", v.repeat(0), 2);
        Due.is("26: as behind one", v.repeat(1), 1);
        Due.is("26: other", v.repeat(2), -2);
    }

    /** Behind the last tick that may pass rounds are still looked at, and so are rests and hours of work. */
    private static void repeatsWhenLate() {
        WarmSide w = Made.late();
        Due.is("26: no tick may pass", w.ticks(1), -6);
        Due.is("26: each round is as the one ahead of it then", w.repeat(0), w.repeat(1) + 1);
        Due.holds("26: it repeats", w.repeat(1) >= 0);
        Due.is("38: any hour", w.work(0), 4095);
        Due.is("22: at rest", w.rest(0, 11), 30 * (w.state(0, false, 0) % 2));
        Due.is("26: no tick has passed", w.count(0), 9999);
    }

    /** A heat of one a tick that never goes is turned off in time: 60 rounds are looked at. */
    private static void repeatsByStates() {
        WarmSide w = Made.plates(1);
        w.coat(0, 0, true, 0);
        w.heater(0, 1);
        w.state(0, false, 1);
        Due.rule(w, "H0:w0>69?0");
        w.heat(0, 0);
        Due.is("26: 700 at the 700th tick, in round 59", w.repeat(0), 60);
        Due.is("26: off behind 59", w.repeat(1), 59);
        Due.rule(w, "H0:w0>70?0");
        Due.is("26: 710 in round 60", w.repeat(0), -9);
        Due.is("26: not seen twice", w.repeat(1), -9);
        w.heat(0, 2);
        Due.is("26: 708 behind 59 rounds, 710 in round 60", w.repeat(0), -9);
        w.heat(0, 14);
        Due.is("26: 12 more, a round less", w.repeat(0), 60);
        w.state(0, false, 3);
        Due.is("26: stuck on is never off", w.repeat(0), -9);
        w.state(0, false, 2);
        Due.is("26: stuck off is at once", w.repeat(0), 1);
        WarmSide v = Made.plates(1);
        v.coat(0, 0, true, 0);
        v.flap(0);
        Due.rule(v, "F0:h=11?0");
        Due.is("26: a flap's state is told once", v.repeat(0), 2);
        Due.is("26: so behind one round it is another", v.repeat(1), 1);
        v.state(0, true, 3);
        Due.is("26: a stuck one's is not", v.repeat(0), 1);
        Due.rule(v, "F0:h=0?0;h=11?2");
        v.state(0, true, 2);
        Due.is("26: a state between is nothing", v.repeat(0), 1);
    }

    /** 300 watts: 166 in all years but the first and the last that are told otherwise. */
    private static void ages() {
        WarmSide w = heated(300);
        Due.is("27: above 165 from the first year", w.age(0, 0, 165, false), 0);
        Due.is("27: never above 166", w.age(0, 0, 166, false), -9);
        w.coat(0, 9, true, 50);
        Due.is("27: in the last year", w.age(0, 0, 166, false), 9);
        Due.is("27: at 240", w.age(0, 0, 239, false), 9);
        Due.is("27: not above 240", w.age(0, 0, 240, false), -9);
        w.year(9);
        Due.is("27: whatever year it is", w.age(0, 0, 165, false), 0);
        w.coat(0, 9, true, 0);
        Due.is("27: above 599", w.age(0, 0, 599, true), 9);
        Due.is("27: never above 600", w.age(0, 0, 600, false), -9);
        Due.is("27: above 0", w.age(0, 0, 0, true), 0);
        w.span(1, 50);
        Due.is("27: 450 may be", w.age(0, 0, 166, false), 0);
        Due.is("27: 150 must be", w.age(0, 0, 166, true), 9);
        Due.is("27: 150 is 116", w.age(0, 0, 115, true), 0);
        Due.is("27: and not above", w.age(0, 0, 116, true), 9);
        Due.is("27: 450 is 210", w.age(0, 0, 209, false), 0);
        Due.is("27: and not above", w.age(0, 0, 210, false), 9);
        for (int y = 0; y <= 9; y++) {
            WarmSide v = heated(300);
            v.coat(0, y, true, 50);
            Due.is("27: in year " + y, v.age(0, 11, 200, y % 2 == 0), y);
        }
    }

    /** 7992 watts to a plate that stays at 0: warmth is that by leads. */
    private static void bolts() {
        int[][] rows = {{1, 0}, {13, -30}, {14, -38}, {97, -1}, {98, -1}, {99, 0}};
        for (int[] row : rows) {
            WarmSide w = Made.keeperAndSink();
            for (int b = 0; b < 8; b++) {
                w.box(0, 999);
            }
            w.joint(0, 1, row[0]);
            int rest = Math.min(600, 7992 / row[0]);
            Due.is("28: rest with " + row[0], w.rest(0, 0), rest);
            Due.is("28: one more than " + row[0], w.bolt(0, 0, 0, 0), row[1]);
            Due.is("28: without " + row[0], w.bolt(0, 0, 0, 1), 600 - rest);
            Due.is("28: of the one at 0", w.bolt(0, 1, 11, 1), 0);
            Due.is("28: rest as before", w.rest(0, 0), rest);
        }
    }

    private static void matters() {
        WarmSide none = Made.plates(1);
        Due.is("29: no joints", none.matters(0, 0), -9);
        Due.is("29: which is not counted", none.count(11), 0);
        WarmSide w = Made.plates(3);
        w.box(0, 900);
        w.joint(0, 1, 20);
        Due.is("29: one alone", w.matters(0, 0), 0);
        Due.is("29: one alone, of a plate that it does not touch", w.matters(2, 0), 0);
        w.joint(1, 2, 1);
        for (int i = 0; i < 18; i++) {
            int last = w.joint(1, 2, 5 + i);
            int best = -9;
            int most = -1;
            for (int j = 0; j <= last; j++) {
                int change = Math.abs(w.bolt(j, 1, 0, 1));
                if (change > most) {
                    most = change;
                    best = j;
                }
            }
            Due.is("29: the most of " + last, w.matters(1, 0), best);
        }
        WarmSide v = Made.keeperAndSink();
        v.plate(10, 1, 0);
        v.box(0, 999);
        v.joint(0, 1, 10);
        v.joint(0, 1, 10);
        v.joint(1, 0, 11);
        v.joint(0, 1, 11);
        Due.is("29: of several the least", v.matters(0, 0), 2);
        v.joint(0, 2, 99);
        Due.is("29: one without which nothing changes", v.matters(0, 0), 2);
    }

    private static void tests() {
        WarmSide w = Made.plates(8);
        int[][] rows = {
            {0, 0, 0, 0, 0}, {7, 999, 7, 600, 99}, {0, 0, 7, 600, 0}, {7, 0, 0, 0, 99}, {0, 999, 0, 0, 0}, {1, 1, 1, 1, 1},
            {0, 0, 0, 0, 0}, {0, 0, 0, 0, 0}, {0, 0, 0, 0, 0}, {0, 0, 0, 0, 0},
        };
        for (int i = 0; i < 10; i++) {
            int[] row = rows[i];
            Due.is("30: how many", w.test(row[0], row[1], row[2], row[3], row[4]), i + 1);
            Due.is("30: counted", w.count(6), i + 1);
        }
        Due.is("30: no room", w.test(0, 0, 0, 0, 0), -6);
        Due.is("30: no more", w.count(6), 10);
        Due.is("30: no act", w.count(8), 0);
    }

    /** With watts, a warmth and a doubt, of a plate whose warmth is watts by leads: how many, least, greatest. */
    private static void fits() {
        int[][] rows = {
            {500, 500, 0, 1, 1, 1}, {800, 20, 0, 2, 39, 40}, {800, 19, 0, 0, -9, -9}, {800, 20, 1, 4, 37, 40},
            {800, 21, 1, 6, 35, 40}, {800, 19, 1, 2, 39, 40}, {999, 600, 0, 1, 1, 1}, {999, 600, 99, 1, 1, 1},
            {999, 598, 99, 2, 1, 2}, {999, 599, 99, 1, 1, 1}, {0, 0, 0, 40, 1, 40}, {0, 1, 0, 0, -9, -9}, {0, 99, 99, 40, 1, 40},
            {0, 100, 99, 0, -9, -9}, {40, 0, 0, 0, -9, -9}, {39, 0, 0, 1, 40, 40}, {1, 0, 0, 39, 2, 40}, {600, 600, 0, 1, 1, 1},
        };
        for (int[] row : rows) {
            WarmSide w = Made.keeperAndSink();
            w.joint(0, 1, 99);
            Due.is("31: without tests", w.fits(0, 0), 40);
            Due.is("31: the least without", w.fits(0, 1), 1);
            Due.is("31: the greatest without", w.fits(0, 2), 40);
            w.test(0, row[0], 0, row[1], row[2]);
            for (int what = 0; what <= 2; what++) {
                Due.is("31: " + row[0] + " watts, " + row[1] + ", what " + what, w.fits(0, what), row[3 + what]);
            }
        }
        WarmSide w = Made.keeperAndSink();
        w.joint(0, 1, 1);
        for (int t = 1; t <= 10; t++) {
            w.test(0, 40 * t, 0, 4 * t, t < 10 ? 99 : 0);
        }
        Due.is("31: the tenth counts", w.fits(0, 0), 1);
        Due.is("31: leads of 10", w.fits(0, 1), 10);
        w.joint(0, 1, 4);
        Due.is("31: others as told", w.fits(0, 1), 6);
        Due.is("31: of the other one", w.fits(1, 1), 9);
        WarmSide v = Made.keeperAndSink();
        v.joint(0, 1, 1);
        v.test(0, 100, 1, 0, 0);
        Due.is("31: the sink is at 0 by all", v.fits(0, 0), 40);
        v.test(0, 100, 1, 1, 0);
        Due.is("31: and never at 1", v.fits(0, 0), 0);
    }

    /** No sun, no box but the test's, no heater, flaps open; year and pipes as they are. */
    private static void fitsInCan() {
        WarmSide w = Made.plates(2);
        w.joint(0, 1, 9);
        w.test(0, 400, 0, 161, 0);
        Due.is("31: leads of 2", w.fits(0, 1), 2);
        w.sun(0, 999);
        w.box(0, 999);
        w.box(1, 999);
        w.heater(0, 999);
        w.heater(1, 999);
        w.state(0, false, 1);
        w.state(1, false, 3);
        w.flap(0);
        w.flap(1);
        w.state(0, true, 0);
        w.state(1, true, 1);
        w.state(1, true, 3);
        w.span(1, 50);
        w.span(2, 50);
        w.heat(0, 5000);
        Due.is("31: all that is nothing to it", w.fits(0, 1), 2);
        Due.is("31: nothing to it at all", w.fits(0, 0), 1);
        w.test(1, 400, 0, 80, 0);
        Due.is("31: a box on the other plate", w.fits(0, 0), 0);
        WarmSide v = Made.plates(2);
        v.joint(0, 1, 9);
        v.test(1, 400, 0, 85, 0);
        Due.is("31: on one plate, of the other", v.fits(0, 2), 1);
        v.pipe(1, 0, 1);
        Due.is("31: a pipe leads", v.fits(0, 0), 0);
        v.frozen(0, true);
        Due.is("31: a frozen one does not", v.fits(0, 0), 1);
    }

    private static void places() {
        WarmSide w = Made.plates(3);
        w.box(0, 300);
        w.box(0, 300);
        w.box(0, 300);
        w.box(0, 10);
        Due.is("32: as they stand: 910", w.place(0, 0, 7, 0), 301);
        Due.is("32: on no plates too", w.place(0, 0, 0, 0), 301);
        Due.is("32: none is placed", w.place(0, 0, 0, 1), -9);
        Due.is("32: one on none", w.place(0, 1, 0, 0), -9);
        Due.is("32: its plate", w.place(0, 1, 0, 1), -9);
        Due.is("32: two on one", w.place(0, 3, 1, 0), -9);
        Due.is("32: two on two", w.place(0, 3, 3, 0), 242);
        Due.is("32: three on two", w.place(0, 7, 3, 0), -9);
        Due.is("32: three on two: plate", w.place(0, 7, 3, 3), -9);
        Due.is("32: three on three, and 10 on the first", w.place(0, 7, 7, 0), 170);
        for (int i = 1; i <= 3; i++) {
            Due.is("32: plates rising", w.place(0, 7, 7, i), i - 1);
        }
        Due.is("32: one is the first of those", w.place(0, 8, 7, 1), 1);
        Due.is("32: and has no second", w.place(0, 8, 7, 2), -9);
        Due.is("32: the greatest of all plates, not of those", w.place(0, 8, 6, 0), 300);
        Due.is("32: four are too many", w.place(0, 15, 7, 0), -6);
        Due.is("32: other", w.place(0, 7, 7, 4), -2);
        w.works(0, false);
        w.works(1, false);
        Due.is("32: those that do not work", w.place(0, 3, 6, 1), 1);
        Due.is("32: 310 are left", w.place(0, 3, 6, 0), 170);
        WarmSide v = Made.plates(1);
        v.coat(0, 0, false, 100);
        v.box(0, 100);
        v.sun(11, 300);
        Due.is("32: in the last hour", v.place(11, 1, 1, 0), 200);
        Due.is("32: in the first", v.place(0, 1, 1, 0), 100);
    }

    /** Eight plates and boxes: the last ones, and the first of several by boxes in order. */
    private static void placesFirst() {
        WarmSide w = Made.plates(8);
        for (int b = 0; b < 8; b++) {
            w.box(b, 0);
        }
        Due.is("32: the last box on the last plate", w.place(0, 128, 128, 1), 7);
        Due.is("32: of all plates the first", w.place(0, 128, 255, 1), 0);
        for (int i = 1; i <= 3; i++) {
            Due.is("32: the last three on the last three", w.place(0, 224, 224, i), 4 + i);
            Due.is("32: on the first three", w.place(0, 224, 255, i), i - 1);
            Due.is("32: some on some", w.place(0, 1 + 8 + 64, 2 + 16 + 32 + 128, i), i == 1 ? 1 : i + 2);
        }
        WarmSide v = Made.plates(3);
        v.box(0, 100);
        v.box(0, 300);
        v.box(2, 100);
        Due.is("32: 300 and 200 either way", v.place(0, 3, 7, 0), 166);
        Due.is("32: the first box as low as it may", v.place(0, 3, 7, 1), 0);
        Due.is("32: the second then", v.place(0, 3, 7, 2), 1);
        Due.is("32: 300 on the first, 200 on the third", v.place(0, 3, 5, 1), 2);
        Due.is("32: not 400", v.place(0, 3, 5, 0), 166);
        Due.is("32: nothing stands elsewhere now", v.rest(0, 0), 200);
    }

    private static void marks() {
        WarmSide w = Made.plates(2);
        int[][] rows = {{0, 0}, {0, 600}, {600, 600}, {1, 1}, {599, 600}, {0, 1}};
        for (int[] row : rows) {
            Due.is("33: told", w.marks(1, row[0], row[1]), 1);
            Due.is("33: least", w.of(1, 3), row[0]);
            Due.is("33: most", w.of(1, 4), row[1]);
            Due.is("33: most below least", w.marks(1, row[0], row[0] - 1), -4);
            Due.is("33: above", w.marks(1, row[0], 601), -6);
            Due.is("33: least as it was", w.of(1, 3), row[0]);
            Due.is("33: most as it was", w.of(1, 4), row[1]);
        }
        Due.is("33: of the other", w.of(0, 4), 600);
        Due.is("33: no act", w.count(8), 0);
    }

    private static void fails() {
        WarmSide w = Made.plates(8);
        for (int k = 0; k < 4; k++) {
            w.heater(7, 75);
        }
        w.state(0, false, 1);
        w.state(1, false, 3);
        w.state(2, false, 1);
        Due.is("34: 300 is 166", w.fails(3, true, 0), -9);
        int[][] rows = {{166, 166, -9}, {0, 166, -9}, {166, 600, -9}, {167, 600, 7}, {0, 165, 7}, {0, 0, 7}, {600, 600, 7}};
        for (int[] row : rows) {
            w.marks(7, row[0], row[1]);
            Due.is("34: at " + row[0] + " to " + row[1], w.fails(3, true, 0), row[2]);
            Due.is("34: as now it is 225", w.fails(3, false, 0), row[0] > 141 || row[1] < 141 ? 7 : -9);
        }
        w.marks(7, 0, 116);
        Due.is("34: without one of three it is 150", w.fails(0, false, 11), -9);
        Due.is("34: without one that is stuck on", w.fails(1, false, 11), -9);
        Due.is("34: with that one", w.fails(1, true, 11), 7);
        w.marks(7, 117, 600);
        Due.is("34: below its least", w.fails(0, false, 11), 7);
        for (int p = 6; p >= 0; p--) {
            w.marks(p, 1, 600);
            Due.is("34: the first of them", w.fails(0, false, 0), p);
        }
        w.state(2, false, 2);
        w.marks(7, 0, 100);
        w.marks(0, 0, 0);
        for (int p = 1; p < 7; p++) {
            w.marks(p, 0, 0);
        }
        Due.is("34: two of 75, the third is stuck off", w.fails(3, false, 0), 7);
        w.marks(7, 116, 116);
        Due.is("34: are 116", w.fails(3, false, 0), -9);
        Due.is("34: states are as they were", w.state(3, false, 0), 0);
    }

    private static void freezes() {
        WarmSide w = new WarmSide();
        Due.is("35: at first", w.freeze(0), 200);
        Due.is("35: the least", w.freeze(600), 0);
        Due.is("35: the greatest", w.freeze(601), -6);
        Due.is("35: nothing changed", w.freeze(-1), -4);
        Due.is("35: nothing changed then", w.freeze(1), 600);
        Due.is("35: no act", w.count(8), 0);
    }

    /** Both plates of a pipe at the mark or above: 300 watts are 166, 200 are 133. */
    private static void thaws() {
        WarmSide w = Made.plates(2);
        w.box(0, 300);
        w.box(1, 200);
        w.pipe(0, 1, 1);
        w.pipe(1, 0, 1);
        w.frozen(0, true);
        w.frozen(1, true);
        w.freeze(133);
        Due.is("36: the colder at the mark", w.thaws(0, 0), 0);
        w.freeze(134);
        Due.is("36: a degree below", w.thaws(0, 0), -9);
        Due.is("36: neither way", w.thaws(0, 1), -9);
        w.freeze(0);
        Due.is("36: the first", w.thaws(0, 0), 0);
        Due.is("36: the second", w.thaws(0, 1), 1);
        Due.is("36: no third", w.thaws(0, 2), -9);
        Due.is("36: far behind", w.thaws(0, Integer.MAX_VALUE), -9);
        Due.is("36: below", w.thaws(0, -1), -4);
        w.frozen(0, false);
        Due.is("36: what is not frozen does not thaw", w.thaws(0, 0), 1);
        Due.is("36: nor then", w.thaws(0, 1), -9);
        w.frozen(1, false);
        Due.is("36: none is frozen", w.thaws(0, 0), -9);
        Due.is("37: so none thaws", w.thaw(0), 0);
        WarmSide v = new WarmSide();
        v.plate(1, 1, 0);
        v.plate(1, 1, 0);
        v.coat(0, 0, true, 0);
        v.pipe(0, 1, 1);
        v.frozen(0, true);
        v.freeze(600);
        Due.is("36: at 600", v.thaws(11, 0), 0);
        v.coat(0, 0, true, 100);
        Due.is("36: at 0", v.thaws(11, 0), -9);
        v.freeze(200);
        v.sun(11, 800);
        Due.is("36: at 200, as it is told at first", v.thaws(11, 0), 0);
        v.sun(11, 799);
        Due.is("36: at 199", v.thaws(11, 0), -9);
        Due.is("36: in another hour", v.thaws(0, 0), -9);
    }

    /** Eight pipes; one that thawed leads, and may warm the plate of another, or cool it. */
    private static void thawsInTurn() {
        WarmSide w = Made.plates(8);
        w.box(0, 999);
        for (int k = 0; k < 7; k++) {
            w.pipe(6 - k, 7 - k, 99);
            w.frozen(k, true);
        }
        w.pipe(0, 7, 1);
        w.frozen(7, true);
        w.joint(0, 1, 1);
        w.freeze(1);
        Due.is("36: the pipe at the warm end alone", w.thaws(0, 0), 6);
        Due.is("36: then none", w.thaws(0, 1), -9);
        for (int p = 0; p < 7; p++) {
            w.joint(p, p + 1, 30);
        }
        Due.is("36: all may", w.thaws(0, 0), 0);
        Due.is("36: to the last", w.thaws(0, 7), 7);
        Due.is("36: no ninth", w.thaws(0, 8), -9);
        Due.is("37: all did", w.thaw(0), 8);
        Due.is("37: and are not frozen", w.frozen(7, false), 0);
        Due.is("37: none is left", w.thaw(0), 0);
        WarmSide v = Made.plates(4);
        v.box(0, 400);
        v.box(1, 400);
        v.box(2, 100);
        v.pipe(0, 3, 99);
        v.pipe(0, 1, 1);
        v.frozen(0, true);
        v.frozen(1, true);
        v.joint(0, 3, 5);
        int cold = v.rest(3, 0);
        v.freeze(cold);
        Due.is("36: the first cools its plate", v.thaws(0, 0), 0);
        v.freeze(v.rest(0, 0));
        Due.is("36: at a mark between the second is the first", v.thaws(0, 0), 1);
        Due.is("36: and the only one", v.thaws(0, 1), -9);
        Due.is("37: it thaws", v.thaw(0), 1);
        Due.is("37: the other is frozen", v.frozen(0, true), 0);
    }

    /** A plate that keeps all, with a box of 100 on mass 10: ten degrees an hour in which it works. */
    private static void workHours() {
        int[][] rows = {
            {0, 0, 0}, {9, 0, 0}, {10, 0, 1}, {50, 0, 31}, {49, 0, 15}, {119, 0, 2047}, {120, 0, 4095}, {600, 0, 4095}, {0, 9, 0},
            {0, 10, -9}, {50, 509, 0}, {50, 510, -9}, {50, 409, 1}, {50, 410, 0}, {599, 5999, 0}, {599, 6000, -9},
            {600, 59999, 4095},
        };
        for (int[] row : rows) {
            WarmSide w = Made.plates(2);
            w.coat(0, 0, true, 0);
            w.box(1, 77);
            w.box(0, 100);
            w.marks(0, 0, row[0]);
            w.marks(1, 0, 0);
            w.heat(0, row[1]);
            Due.is("38: up to " + row[0] + " from " + row[1], w.work(1), row[2]);
            w.works(1, false);
            Due.is("38: whether it works now or not", w.work(1), row[2]);
            Due.is("38: it does not", w.works(1, false), 0);
            Due.is("38: heat is as it was", w.of(0, 1), row[1]);
        }
        WarmSide w = Made.plates(1);
        w.coat(0, 0, true, 0);
        w.box(0, 100);
        w.box(0, 20);
        w.marks(0, 0, 50);
        Due.is("38: another one works too", w.work(0), 3);
        Due.is("38: and it has no hour beside that one", w.work(1), -9);
        w.works(1, false);
        Due.is("38: another one does not", w.work(0), 31);
        w.works(0, false);
        Due.is("38: nor that one", w.work(1), 4095);
        w.marks(0, 50, 600);
        Due.is("38: the least mark is nothing to it", w.work(0), 4095);
        w.box(0, 0);
        w.marks(0, 0, 0);
        Due.is("38: a box of 0 always works", w.work(2), 4095);
    }

    /** The round begins at hour 0, whatever the hour is: sun of hour 0 comes ahead of what the plate sends. */
    private static void workFromHourZero() {
        WarmSide w = swinging();
        w.coat(0, 0, false, 100);
        w.box(0, 0);
        w.sun(0, 300);
        w.ticks(5);
        w.heat(0, 500);
        w.marks(0, 0, 69);
        Due.is("38: 700 behind the first tick", w.work(0), -9);
        w.marks(0, 0, 70);
        Due.is("38: 70 is not above", w.work(0), 4095);
        w.sun(0, 0);
        w.sun(11, 800);
        Due.is("38: 700 behind the last tick", w.work(0), 4095);
        w.marks(0, 0, 69);
        Due.is("38: which is above", w.work(0), -9);
        w.sun(11, 0);
        Due.rule(w, "H0:h=11?1");
        w.heat(0, 1250);
        w.marks(0, 0, 114);
        Due.is("38: 1150 behind the first tick", w.work(0), -9);
        w.marks(0, 0, 115);
        Due.is("38: texts rule, at hour 11", w.work(0), 4095);
        w.state(0, false, 3);
        Due.is("38: stuck on: it rises to 1850", w.work(0), -9);
        w.marks(0, 0, 185);
        Due.is("38: and not above", w.work(0), 4095);
        Due.is("38: no tick has passed", w.count(0), 5);
    }

    /** Who works in hour 0 turns on a heater for good: three hours then, but six if it begins later. */
    private static void workNotAtOnce() {
        WarmSide w = Made.plates(1);
        w.coat(0, 0, true, 0);
        w.box(0, 100);
        w.heater(0, 20);
        Due.rule(w, "H0:h=1&w0>5?1");
        w.marks(0, 0, 60);
        Due.is("38: the most hours", w.work(0), 126);
        w.marks(0, 0, 29);
        Due.is("38: two, and none beside the heater", w.work(0), 6);
        Due.is("38: the heater is as it was", w.state(0, false, 0), 0);
    }

    /** Hour 0 and one behind the cooling at 9, or hours 1 and 2: as many, and less as bits. */
    private static void workLeastBits() {
        WarmSide w = new WarmSide();
        w.plate(10, 20, 0);
        w.coat(0, 0, true, 100);
        for (int k = 0; k <= 6; k++) {
            w.point(k, 0);
        }
        for (int k = 6; k >= 0; k--) {
            w.point(k, 4);
        }
        w.flap(0);
        w.state(0, true, 0);
        w.box(0, 90);
        w.heater(0, 80);
        Due.rule(w, "H0:h=1&w0>5?1;h=3?0");
        Due.rule(w, "F0:h=9&w0>24?2;h=10?0");
        w.marks(0, 0, 26);
        Due.is("38: of several the least as bits", w.work(0), 6);
        Due.is("38: the flap is shut as it was", w.of(0, 2), 0);
        w.state(0, false, 2);
        Due.is("38: without the heater", w.work(0), 3);
    }

    /** One plate alone: every set of hours is tried here too, by the first table. */
    private static void workByTrying() {
        for (int watts = 150; watts <= 900; watts += 150) {
            for (int most = 40; most <= 160; most += 15) {
                for (int heat = 0; heat <= 1200; heat += 150) {
                    workTried(watts, most, heat);
                }
            }
        }
        Due.is("38: better not to begin at once", workTried(909, 268, 2257), 0b110101010110);
    }

    private static int workTried(int watts, int most, int heat) {
        WarmSide w = Made.plates(1);
        w.box(0, watts);
        w.marks(0, 0, most);
        w.heat(0, heat);
        int best = -9;
        for (int set = 0; set < 4096; set++) {
            if (best >= 0 && Integer.bitCount(set) <= Integer.bitCount(best)) continue;
            if (staysBelow(set, watts, most, heat)) best = set;
        }
        Due.is("38: " + watts + " watts, " + most + ", from " + heat, w.work(0), best);
        return w.work(0);
    }

    private static boolean staysBelow(int set, int watts, int most, int heat) {
        int now = heat;
        for (int h = 0; h < 12; h++) {
            now += (set >> h & 1) * watts - Made.sending(Math.min(600, now / 10));
            now = Math.max(0, now);
            if (now / 10 > most) return false;
        }
        return true;
    }

    private static void shares() {
        WarmSide w = Made.plates(1);
        for (int cause = 0; cause <= 2; cause++) {
            Due.is("39: of nothing", w.share(0, 0, cause, false), 0);
            Due.is("39: of nothing by all", w.share(0, 0, cause, true), 0);
        }
        w.coat(0, 0, false, 100);
        w.sun(11, 100);
        w.box(0, 300);
        w.heater(0, 500);
        w.state(0, false, 1);
        int[] byOrder = {100, 100, 100};
        // Alone: sun 100, boxes 166, heaters 220; of two: sun and boxes 200, sun and heaters 240, the others 280.
        int[] byAll = {2 * 100 + 34 + 20 + 2 * 20, 2 * 166 + 100 + 60 + 2 * 60, 2 * 220 + 140 + 114 + 2 * 100};
        for (int cause = 0; cause <= 2; cause++) {
            Due.is("39: by order " + cause, w.share(0, 11, cause, false), byOrder[cause]);
            Due.is("39: by all " + cause, w.share(0, 11, cause, true), byAll[cause]);
        }
        Due.is("39: no sun in the first hour", w.share(0, 0, 0, true), 0);
        Due.is("39: boxes then", w.share(0, 0, 1, false), 166);
        w.state(0, false, 2);
        Due.is("39: a heater that is off", w.share(0, 11, 2, true), 0);
        w.works(0, false);
        Due.is("39: a box that does not work", w.share(0, 11, 1, true), 0);
        Due.is("39: the sun alone, six times", w.share(0, 11, 0, true), 600);
        w.coat(0, 0, true, 0);
        Due.is("39: from none of it it is at 600", w.share(0, 11, 0, false), 0);
        w.coat(0, 0, true, 100);
        w.point(0, 100);
        Due.is("39: at 0 it loses 100 without", w.share(0, 11, 0, false), 100);
    }

    /** Every call that names an hour takes all twelve, each as itself. */
    private static void hours() {
        WarmSide w = Made.plates(2);
        w.coat(0, 0, false, 100);
        w.pipe(0, 1, 1);
        w.frozen(0, true);
        w.joint(0, 1, 1);
        w.box(0, 10);
        w.heater(0, 1);
        w.face(1, 0);
        for (int h = 0; h <= 11; h++) {
            w.sun(h, 10 * h);
        }
        int last = -1;
        for (int h = 0; h <= 11; h++) {
            int rest = w.rest(0, h);
            Due.holds("22: warmer in hour " + h, rest > last);
            Due.is("23: hour " + h, w.rests(h, -1), 1);
            Due.is("25: hour " + h, w.worst(0, h, true), rest);
            Due.is("27: hour " + h, w.age(0, h, Math.max(0, rest - 1), false), 0);
            Due.is("27: not in hour " + h, w.age(0, h, rest, true), -9);
            Due.is("28: hour " + h, w.bolt(0, 0, h, 1), heated(10 * h + 10).rest(0, 0) - rest);
            Due.is("29: hour " + h, w.matters(0, h), 0);
            Due.is("32: hour " + h, w.place(h, 0, 0, 0), rest);
            w.marks(0, rest, 600);
            Due.is("34: hour " + h, w.fails(0, false, h), -9);
            Due.is("36: hour " + h, w.thaws(h, 0), -9);
            Due.is("37: hour " + h, w.thaw(h), 0);
            Due.is("39: hour " + h, w.share(0, h, 0, false) + w.share(0, h, 1, false), rest);
            last = rest;
        }
    }
}
