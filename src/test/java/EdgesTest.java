/** The ends that the document names, tick by tick: least and greatest, empty and full, what is cut, what goes round. */
public final class EdgesTest {
    private EdgesTest() {
    }

    public static void main(String[] args) {
        newObject();
        newPlate();
        plateNumbers();
        warmth();
        points();
        sending();
        coats();
        coatsByYears();
        suns();
        takes();
        joints();
        pipes();
        boxes();
        heaters();
        flaps();
        flapsStuck();
        belowNothing();
        ticks();
        allAtOnce();
        acts();
        noActs();
        sixtyActs();
        forgotten();
        refusalsApart();
        Due.end();
    }

    /** What a tick does to a sum. */
    private static long tick(WarmSide w, int what) {
        long was = w.sum(what);
        w.ticks(1);
        return w.sum(what) - was;
    }

    private static void newObject() {
        WarmSide w = new WarmSide();
        for (int what = 0; what <= 16; what++) {
            Due.is("1: count(" + what + ")", w.count(what), what == 9 || what == 10 ? -9 : 0);
        }
        for (int k = 0; k <= 6; k++) {
            Due.is("1: point " + k, w.point(k, 100 * k * k), 100 * k * k);
        }
        for (int i = 0; i < 80; i++) {
            Due.is("1: coat " + i / 20 + " in " + i % 10, w.coat(i / 20, i % 10, i / 10 % 2 == 0, 50), 50);
        }
        for (int h = 0; h <= 11; h++) {
            Due.is("1: sun of " + h, w.sun(h, 0), 0);
            Due.is("1: one rest", w.rests(h, -1), 1);
            Due.is("1: with no heater on", w.rests(h, 0), 0);
            Due.is("1: no second rest", w.rests(h, 1), -9);
            Due.is("1: nothing thaws", w.thaws(h, 0), -9);
            Due.is("1: none thaws", w.thaw(h), 0);
            Due.is("1: no box to place", w.place(h, 0, 0, 1), -9);
        }
        for (int what = 0; what <= 2; what++) {
            Due.is("1: span " + what, w.span(what, 0), 0);
            Due.is("1: sum " + what, w.sum(what), 0);
        }
        Due.is("1: freeze", w.freeze(200), 200);
        Due.is("1: year", w.year(0), 0);
        Due.is("1: no text", w.text(), -20);
        Due.is("1: repeats at once", w.repeat(0), 1);
        Due.is("1: as behind none", w.repeat(1), 0);
        Due.is("1: no tick yet", w.ticks(1), 1);
        Due.is("1: of nothing", w.sum(0) + w.sum(1) + w.sum(2), 0);
        Due.is("1: no refusal in all this", w.count(11) + w.count(12) + w.count(13) + w.count(14) + w.count(16), 0);
    }

    private static void newPlate() {
        WarmSide w = new WarmSide();
        for (int p = 0; p < 8; p++) {
            Due.is("2: its number", w.plate(1 + p, 1, p % 4), p);
            Due.is("2: how many", w.count(1), p + 1);
            Due.is("2: warmth", w.of(p, 0), 0);
            Due.is("2: heat", w.of(p, 1), 0);
            Due.is("2: no flap", w.of(p, 2), -9);
            Due.is("2: least mark", w.of(p, 3), 0);
            Due.is("2: most mark", w.of(p, 4), 600);
            Due.is("2: faces the sun whole", w.face(p, 2), 2);
        }
        Due.is("2: no ninth", w.plate(1, 1, 0), -6);
    }

    private static void plateNumbers() {
        for (int mass : new int[] {1, 2, 98, 99}) {
            WarmSide w = new WarmSide();
            Due.is("2: mass " + mass, w.plate(mass, 1, 0), 0);
            w.heat(0, 198);
            Due.is("2: warmth by mass " + mass, w.of(0, 0), 198 / mass);
        }
        for (int area : new int[] {1, 2, 19, 20}) {
            WarmSide w = new WarmSide();
            Due.is("2: area " + area, w.plate(99, area, 0), 0);
            w.sun(0, 100);
            Due.is("2: takes by area " + area, tick(w, 0), 50 * area);
            w.heat(0, 9900);
            Due.is("2: sends by area " + area, tick(w, 2), 50 * area);
        }
        for (int coat = 0; coat <= 3; coat++) {
            WarmSide w = new WarmSide();
            Due.is("2: coat " + coat, w.plate(99, 1, coat), 0);
            for (int c = 0; c <= 3; c++) {
                w.coat(c, 0, false, 10 + c);
                w.coat(c, 0, true, 20 + c);
            }
            w.sun(0, 100);
            Due.is("2: takes by coat " + coat, tick(w, 0), 10 + coat);
            w.heat(0, 9900);
            Due.is("2: sends by coat " + coat, tick(w, 2), 20 + coat);
        }
    }

    private static void warmth() {
        int[][] rows = {
            {1, 0, 0}, {1, 1, 1}, {1, 599, 599}, {1, 600, 600}, {1, 601, 600}, {1, 59999, 600}, {7, 6, 0}, {7, 7, 1},
            {7, 13, 1}, {7, 14, 2}, {7, 4199, 599}, {7, 4200, 600}, {7, 4207, 600}, {99, 98, 0}, {99, 99, 1},
            {99, 59399, 599}, {99, 59400, 600}, {99, 59498, 600}, {99, 59499, 600}, {99, 59999, 600},
        };
        for (int[] row : rows) {
            WarmSide w = new WarmSide();
            w.plate(row[0], 1, 0);
            w.heat(0, row[1]);
            Due.is("3: warmth of " + row[1] + " by " + row[0], w.of(0, 0), row[2]);
            Due.is("3: heat is kept", w.of(0, 1), row[1]);
        }
        WarmSide w = new WarmSide();
        w.plate(99, 1, 0);
        w.plate(99, 1, 0);
        Due.is("3: the greatest", w.heat(1, 59999), 0);
        Due.is("3: above", w.heat(1, 60000), -6);
        Due.is("3: what it was", w.heat(1, 0), 59999);
        Due.is("3: the other", w.of(0, 1), 0);
        w.heat(0, 59999);
        w.coat(0, 0, true, 0);
        w.box(0, 999);
        w.ticks(1);
        Due.is("3: ticks may bring more than may be told", w.heat(0, 5), 60998);
    }

    private static void points() {
        WarmSide w = new WarmSide();
        for (int k = 0; k <= 6; k++) {
            int ahead = k == 0 ? 0 : 100 * (k - 1) * (k - 1);
            int behind = k == 6 ? 9999 : 100 * (k + 1) * (k + 1);
            Due.is("4: as the one ahead of " + k, w.point(k, ahead), 100 * k * k);
            Due.is("4: as the one behind " + k, w.point(k, behind), ahead);
            Due.is("4: as at first " + k, w.point(k, 100 * k * k), behind);
            if (k > 1) Due.is("4: below the one ahead of " + k, w.point(k, ahead - 1), -3);
            if (k < 6) Due.is("4: above the one behind " + k, w.point(k, behind + 1), -3);
            Due.is("4: nothing changed", w.point(k, 100 * k * k), 100 * k * k);
        }
        for (int k = 6; k >= 0; k--) {
            Due.is("4: all may be the greatest", w.point(k, 9999), 100 * k * k);
        }
        Due.is("4: the second may not be less then", w.point(1, 9998), -3);
        Due.is("4: the first may", w.point(0, 9998), 9999);
        Due.is("4: so may the second", w.point(1, 9998), 9999);
        for (int k = 0; k <= 6; k++) {
            w.point(k, 0);
            Due.is("4: all may be the least", w.point(k, 0), 0);
        }
        Due.is("4: the last but one may not be more then", w.point(5, 1), -3);
        Due.is("4: the last may", w.point(6, 1), 0);
    }

    /** Points 0, 101, 400, 900, 1600, 2500, 9999; a plate of mass 99 has enough heat for each warmth. */
    private static void sending() {
        WarmSide w = new WarmSide();
        w.plate(99, 1, 0);
        w.coat(0, 0, true, 100);
        w.point(1, 101);
        w.point(6, 9999);
        int[][] rows = {
            {0, 0}, {1, 1}, {2, 2}, {98, 98}, {99, 99}, {100, 101}, {101, 103}, {102, 106}, {199, 397}, {200, 400},
            {201, 405}, {299, 895}, {300, 900}, {499, 2491}, {500, 2500}, {501, 2574}, {599, 9924}, {600, 9999},
        };
        for (int[] row : rows) {
            w.heat(0, 99 * row[0]);
            Due.is("II: sent at " + row[0], tick(w, 2), row[1]);
            w.heat(0, 99 * row[0] + 98);
            Due.is("II: sent a little above " + row[0], tick(w, 2), row[1]);
        }
        w.heat(0, 59999);
        Due.is("II: sent at 600 and more", tick(w, 2), 9999);
        w.point(0, 98);
        w.heat(0, 98);
        Due.is("II: sent at 0", tick(w, 2), 98);
        Due.is("II: of which nothing is left", w.of(0, 1), 0);
        w.point(0, 97);
        w.heat(0, 98);
        Due.is("II: sent at 0, one less", tick(w, 2), 97);
        Due.is("II: of which one is left", w.of(0, 1), 1);
    }

    private static void coats() {
        WarmSide w = new WarmSide();
        for (int i = 0; i < 80; i++) {
            Due.is("5: at first", w.coat(i / 20, i % 10, i / 10 % 2 == 0, i), 50);
        }
        for (int i = 79; i >= 0; i--) {
            Due.is("5: each by itself", w.coat(i / 20, i % 10, i / 10 % 2 == 0, 100), i);
        }
        Due.is("5: the greatest was told", w.coat(3, 9, true, 0), 100);
        Due.is("5: the least", w.coat(3, 9, true, 0), 0);
        Due.is("5: above", w.coat(3, 9, true, 101), -6);
        Due.is("5: below", w.coat(3, 9, true, -1), -4);
        Due.is("5: no act", w.count(8), 0);
        WarmSide v = new WarmSide();
        v.plate(99, 1, 0);
        v.sun(0, 999);
        v.sun(1, 999);
        v.coat(0, 0, false, 0);
        v.coat(0, 0, true, 0);
        v.heat(0, 59400);
        v.ticks(1);
        Due.is("5: at 0 it takes nothing", v.sum(0), 0);
        Due.is("5: at 0 it sends nothing", v.sum(2), 0);
        v.coat(0, 0, false, 100);
        v.coat(0, 0, true, 100);
        v.ticks(1);
        Due.is("5: at 100 it takes all", v.sum(0), 999);
        Due.is("5: at 100 it sends all", v.sum(2), 3600);
    }

    private static void coatsByYears() {
        WarmSide w = new WarmSide();
        w.plate(99, 1, 2);
        for (int y = 0; y <= 9; y++) {
            w.coat(2, y, false, 60 + y);
            w.coat(2, y, true, 30 + y);
        }
        for (int h = 0; h <= 11; h++) {
            w.sun(h, 100);
        }
        for (int y = 0; y <= 9; y++) {
            Due.is("18: what it was", w.year(y), y == 0 ? 0 : y - 1);
            w.heat(0, 9900);
            Due.is("18: takes in year " + y, tick(w, 0), 60 + y);
            w.heat(0, 9900);
            Due.is("18: sends in year " + y, tick(w, 2), 30 + y);
        }
        Due.is("18: behind the last", w.year(10), -1);
        Due.is("18: ahead of the first", w.year(-1), -1);
        Due.is("18: it is the last", w.year(0), 9);
    }

    private static void suns() {
        WarmSide w = new WarmSide();
        w.plate(99, 1, 0);
        w.coat(0, 0, false, 100);
        for (int h = 0; h <= 11; h++) {
            Due.is("6: at first", w.sun(h, h == 0 ? 999 : h), 0);
        }
        for (int t = 0; t < 26; t++) {
            Due.is("6: of tick " + t, tick(w, 0), t % 12 == 0 ? 999 : t % 12);
        }
        Due.is("6: the least", w.sun(0, 0), 999);
        Due.is("6: the greatest", w.sun(0, 999), 0);
        Due.is("6: above", w.sun(0, 1000), -6);
        Due.is("6: below", w.sun(0, -1), -4);
        Due.is("6: no act", w.count(8), 0);
    }

    /** Area, sun, takes, face, what is taken. */
    private static void takes() {
        int[][] rows = {
            {1, 1, 100, 2, 1}, {1, 1, 99, 2, 0}, {1, 1, 100, 1, 0}, {1, 2, 100, 1, 1}, {1, 3, 100, 1, 1}, {1, 199, 1, 2, 1},
            {1, 199, 1, 1, 0}, {1, 200, 1, 1, 1}, {20, 999, 100, 2, 19980}, {20, 999, 100, 1, 9990}, {20, 999, 100, 0, 0},
            {3, 33, 67, 2, 66}, {3, 33, 67, 1, 33}, {1, 999, 0, 2, 0}, {20, 0, 100, 2, 0}, {20, 1, 5, 2, 1}, {20, 1, 4, 2, 0},
        };
        for (int[] row : rows) {
            WarmSide w = new WarmSide();
            w.plate(99, row[0], 0);
            w.sun(0, row[1]);
            w.coat(0, 0, false, row[2]);
            w.face(0, row[3]);
            Due.is("II: taken", tick(w, 0), row[4]);
            Due.is("II: heat of it", w.of(0, 1), row[4]);
        }
        WarmSide w = new WarmSide();
        w.plate(9, 1, 0);
        w.plate(9, 1, 0);
        w.sun(0, 1);
        w.coat(0, 0, false, 99);
        Due.is("II: each plate is cut by itself", tick(w, 0), 0);
        Due.is("7: whole at first", w.face(1, 0), 2);
        Due.is("7: not at all", w.face(1, 1), 0);
        Due.is("7: half", w.face(1, 2), 1);
        Due.is("7: whole", w.face(1, 2), 2);
        Due.is("7: the other is whole", w.face(0, 2), 2);
        Due.is("7: other", w.face(1, 3), -2);
        Due.is("7: other below", w.face(1, -1), -2);
    }

    private static void joints() {
        for (int leads : new int[] {1, 2, 98, 99}) {
            WarmSide w = Made.keeperAndSink();
            w.coat(1, 0, true, 0);
            Due.is("8: leads " + leads, w.joint(1, 0, leads), 0);
            w.heat(0, 1009);
            w.heat(1, 990);
            w.ticks(1);
            Due.is("8: a degree from the second " + leads, w.of(0, 1), 1009 - leads);
            Due.is("8: to the first " + leads, w.of(1, 1), 990 + leads);
            w.heat(0, 990);
            w.heat(1, 1009);
            w.ticks(1);
            Due.is("8: a degree to the second " + leads, w.of(0, 1), 990 + leads);
            Due.is("8: from the first " + leads, w.of(1, 1), 1009 - leads);
            w.heat(0, 1009);
            w.heat(1, 1000);
            w.ticks(1);
            Due.is("8: none between them " + leads, w.of(0, 1), 1009);
            w.heat(0, 59999);
            w.heat(1, 6000);
            w.ticks(1);
            Due.is("8: none between 600 and 600 " + leads, w.of(1, 1), 6000);
        }
        WarmSide w = Made.plates(8);
        w.coat(0, 0, true, 0);
        for (int j = 0; j < 20; j++) {
            Due.is("8: number", w.joint(j % 7, 7, 1), j);
            Due.is("8: how many", w.count(2), j + 1);
            w.heat(7, 10);
            for (int p = 0; p < 7; p++) {
                w.heat(p, 0);
            }
            w.ticks(1);
            Due.is("8: joint " + j + " leads", w.of(j % 7, 1), j / 7 + 1);
        }
        Due.is("8: no room", w.joint(0, 7, 1), -6);
        w.heat(7, 10);
        w.heat(6, 0);
        w.ticks(1);
        Due.is("8: the 20 lead as before", w.of(6, 1), 2);
    }

    private static void pipes() {
        for (int leads : new int[] {1, 2, 98, 99}) {
            WarmSide w = Made.keeperAndSink();
            w.coat(1, 0, true, 0);
            Due.is("9: leads " + leads, w.pipe(1, 0, leads), 0);
            w.heat(0, 990);
            w.heat(1, 1009);
            w.ticks(1);
            Due.is("9: a degree to the second " + leads, w.of(0, 1), 990 + leads);
            Due.is("9: from the first " + leads, w.of(1, 1), 1009 - leads);
            w.heat(0, 1009);
            w.heat(1, 990);
            w.ticks(1);
            Due.is("9: nothing if the first is colder " + leads, w.of(0, 1), 1009);
            w.heat(1, 1000);
            w.ticks(1);
            Due.is("9: nothing if it is as warm " + leads, w.of(0, 1), 1009);
            w.frozen(0, true);
            w.heat(1, 5000);
            w.ticks(1);
            Due.is("10: nothing if it is frozen " + leads, w.of(0, 1), 1009);
        }
        WarmSide w = Made.plates(8);
        w.coat(0, 0, true, 0);
        for (int k = 0; k < 8; k++) {
            Due.is("9: number", w.pipe(7, k % 7, 1), k);
            Due.is("9: how many", w.count(3), k + 1);
            Due.is("10: not frozen at first", w.frozen(k, false), 0);
        }
        Due.is("9: no room", w.pipe(7, 0, 1), -6);
        for (int k = 0; k < 8; k++) {
            Due.is("10: frozen", w.frozen(k, true), 1);
            Due.is("10: it was so", w.frozen(k, true), 0);
            for (int p = 0; p < 8; p++) {
                w.heat(p, p == 7 ? 100 : 0);
            }
            w.ticks(1);
            Due.is("10: without pipe " + k, w.of(k % 7, 1), k == 0 ? 10 : 0);
            Due.is("10: the others lead", w.of(7, 1), 100 - 10 * (7 - k));
        }
        Due.is("10: not frozen any more", w.frozen(7, false), 1);
        w.ticks(1);
        Due.is("10: it leads again", w.of(0, 1), 10);
    }

    private static void boxes() {
        WarmSide w = Made.plates(8);
        w.coat(0, 0, true, 0);
        int[] watts = {0, 1, 2, 5, 10, 20, 998, 999};
        int sum = 0;
        for (int b = 0; b < 8; b++) {
            Due.is("11: number", w.box(b, watts[b]), b);
            Due.is("11: how many", w.count(4), b + 1);
            sum += watts[b];
            Due.is("11: it works at first", tick(w, 1), sum);
            Due.is("11: on its plate", w.of(b, 1), watts[b]);
        }
        Due.is("11: no room", w.box(0, 1), -6);
        for (int b = 0; b < 8; b++) {
            Due.is("12: not any more", w.works(b, false), 1);
            Due.is("12: it was so", w.works(b, false), 0);
            sum -= watts[b];
            Due.is("12: made without " + b, tick(w, 1), sum);
        }
        Due.is("12: works again", w.works(7, true), 1);
        Due.is("12: it was so then", w.works(7, true), 0);
        Due.is("12: made by the last alone", tick(w, 1), 999);
    }

    private static void heaters() {
        WarmSide w = Made.plates(8);
        w.coat(0, 0, true, 0);
        int[] watts = {1, 2, 998, 999};
        for (int k = 0; k < 4; k++) {
            Due.is("13: number", w.heater(7 - k, watts[k]), k);
            Due.is("13: how many", w.count(5), k + 1);
            Due.is("13: off at first", tick(w, 1), 0);
            Due.is("15: off", w.state(k, false, 1), 0);
            Due.is("15: on: made", tick(w, 1), watts[k]);
            Due.is("13: on its plate", w.of(7 - k, 1), watts[k]);
            Due.is("15: on", w.state(k, false, 2), 1);
            Due.is("15: stuck off: made", tick(w, 1), 0);
            Due.is("15: stuck off", w.state(k, false, 3), 2);
            Due.is("15: stuck on: made", tick(w, 1), watts[k]);
            Due.is("15: stuck on", w.state(k, false, 0), 3);
            Due.is("15: off again: made", tick(w, 1), 0);
        }
        Due.is("13: no room", w.heater(0, 1), -6);
        Due.is("15: other", w.state(3, false, 4), -2);
        Due.is("15: no fifth", w.state(4, false, 0), -1);
    }

    /** All points 9: a fifth is 1, a half is 4, cut ahead of area and coat. */
    private static void flaps() {
        WarmSide w = new WarmSide();
        w.plate(99, 20, 0);
        for (int k = 0; k <= 6; k++) {
            w.point(k, 0);
        }
        for (int k = 6; k >= 0; k--) {
            w.point(k, 9);
        }
        int[][] rows = {{100, 20, 80, 180}, {99, 19, 79, 178}, {5, 1, 4, 9}, {1, 0, 0, 1}, {0, 0, 0, 0}};
        for (int[] row : rows) {
            w.coat(0, 0, true, row[0]);
            w.heat(0, 59999);
            Due.is("II: sent by a plate without a flap, or open", tick(w, 2), row[3]);
            if (w.of(0, 2) == -9) w.flap(0);
            for (int s = 2; s >= 0; s--) {
                w.state(0, true, s);
                Due.is("15: sent in state " + s, tick(w, 2), row[1 + s]);
                Due.is("15: it is so", w.of(0, 2), s);
            }
            w.state(0, true, 2);
        }
        Due.is("14: it has", w.flap(0), -3);
        for (int from = 0; from <= 3; from++) {
            for (int to = 0; to <= 3; to++) {
                w.state(0, true, from);
                Due.is("15: what it was", w.state(0, true, to), from);
                Due.is("15: what it is", w.of(0, 2), to);
            }
        }
        WarmSide v = Made.plates(8);
        for (int p = 0; p < 8; p++) {
            Due.is("14: none yet", v.state(p, true, 0), -3);
            Due.is("14: plate " + p, v.flap(p), 1);
            Due.is("14: open at first", v.of(p, 2), 2);
            Due.is("14: it has", v.flap(p), -3);
        }
        Due.is("14: no act", v.count(8), 0);
    }

    /** Stuck as it was: in ticks and at rest, told stuck once more, and told another state then. */
    private static void flapsStuck() {
        int[] sent = {20, 50, 100};
        int[] rest = {220, 133, 100};
        for (int s = 0; s <= 2; s++) {
            WarmSide w = Made.plates(1);
            w.flap(0);
            w.box(0, 100);
            if (s < 2) w.state(0, true, s);
            for (int i = 0; i < 2; i++) {
                w.state(0, true, 3);
                w.heat(0, 1000);
                Due.is("15: sent, stuck as in " + s, tick(w, 2), sent[s]);
                Due.is("22: rest, stuck as in " + s, w.rest(0, 0), rest[s]);
            }
            w.state(0, true, 2 - s);
            w.heat(0, 1000);
            Due.is("15: free again", tick(w, 2), sent[2 - s]);
        }
        WarmSide w = Made.plates(1);
        w.flap(0);
        w.state(0, true, 3);
        w.heat(0, 1000);
        Due.is("15: stuck at first is open", tick(w, 2), 100);
    }

    /** Plate 0 sends 50 and leads 99 or 198; heat, joints, what it sent, what is left. */
    private static void belowNothing() {
        int[][] rows = {
            {150, 1, 50, 1}, {149, 1, 50, 0}, {148, 1, 49, 0}, {100, 1, 1, 0}, {99, 1, 0, 0}, {99, 2, 0, 0}, {51, 0, 50, 1},
            {50, 0, 50, 0}, {49, 0, 49, 0}, {1, 0, 1, 0}, {0, 0, 0, 0}, {197, 2, 0, 0}, {98, 1, 50, 48},
        };
        for (int[] row : rows) {
            WarmSide w = new WarmSide();
            w.plate(99, 1, 0);
            w.plate(99, 1, 1);
            w.coat(0, 0, true, 100);
            w.coat(1, 0, true, 0);
            w.point(1, 50);
            w.point(0, 50);
            w.point(2, 50);
            for (int j = 0; j < row[1]; j++) {
                w.joint(0, 1, 99);
            }
            w.heat(0, row[0]);
            Due.is("II: sent of " + row[0] + " with " + row[1], tick(w, 2), row[2]);
            Due.is("II: left of " + row[0] + " with " + row[1], w.of(0, 1), row[3]);
            Due.is("II: the other has all that was led", w.of(1, 1), 99 * row[1] * (row[0] / 99));
        }
    }

    private static void ticks() {
        WarmSide w = Made.plates(1);
        w.box(0, 1);
        Due.is("19: one", w.ticks(1), 1);
        Due.is("19: 200", w.ticks(200), 201);
        Due.is("19: so many were made", w.sum(1), 201);
        for (int i = 0; i < 48; i++) {
            w.ticks(200);
        }
        Due.is("19: 9801 in all", w.count(0), 9801);
        Due.is("19: 10000 are too many", w.ticks(199), -6);
        Due.is("19: nothing passed", w.count(0), 9801);
        Due.is("19: 9998", w.ticks(197), 9998);
        Due.is("19: two are too many", w.ticks(2), -6);
        Due.is("19: 9999", w.ticks(1), 9999);
        Due.is("19: one is too many", w.ticks(1), -6);
        Due.is("19: none is too few", w.ticks(0), -4);
        Due.is("19: counted", w.count(16), 3);
        Due.is("19: made in all", w.sum(1), 9999);
    }

    /** All plates by warmths as they were ahead of the tick, whatever their numbers. */
    private static void allAtOnce() {
        WarmSide w = Made.plates(3);
        w.coat(0, 0, true, 0);
        w.joint(0, 1, 1);
        w.joint(1, 2, 1);
        w.pipe(2, 0, 1);
        w.heat(1, 300);
        w.heat(2, 600);
        w.ticks(1);
        Due.is("II: the first", w.of(0, 1), 30 + 60);
        Due.is("II: the second", w.of(1, 1), 300 - 30 + 30);
        Due.is("II: the third", w.of(2, 1), 600 - 30 - 60);
    }

    private static WarmSide forActs() {
        WarmSide w = Made.plates(2);
        w.pipe(0, 1, 1);
        w.box(0, 1);
        w.heater(0, 1);
        w.flap(1);
        return w;
    }

    /** Each kind by itself: what changes something may be undone and done again, what changes nothing may not. */
    private static void acts() {
        WarmSide w = forActs();
        int before = 0;
        for (int kind = 0; kind < 5; kind++) {
            tellAct(w, kind, false);
            Due.is("V: told as it is, kind " + kind, w.count(8), before);
            tellAct(w, kind, true);
            before++;
            Due.is("V: told otherwise, kind " + kind, w.count(8), before);
            tellAct(w, kind, true);
            Due.is("V: told once more, kind " + kind, w.count(8), before);
        }
        for (int kind = 4; kind >= 0; kind--) {
            Due.is("40: undone, kind " + kind, w.undo(), 1);
            before--;
            Due.is("40: one less", w.count(8), before);
            tellAct(w, kind, false);
            Due.is("40: it is as it was, kind " + kind, w.count(8), before);
        }
        Due.is("40: none is left", w.undo(), -3);
        for (int kind = 0; kind < 5; kind++) {
            Due.is("41: done again, kind " + kind, w.redo(), 1);
            before++;
            Due.is("41: one more", w.count(8), before);
            tellAct(w, kind, true);
            Due.is("41: it is as it was told, kind " + kind, w.count(8), before);
        }
        Due.is("41: none is left", w.redo(), -3);
        w.undo();
        w.undo();
        tellAct(w, 4, true);
        Due.is("41: one came behind", w.redo(), -3);
        Due.is("41: which may be undone", w.undo(), 1);
        Due.is("41: and done again", w.redo(), 1);
        Due.is("41: and no other", w.redo(), -3);
        Due.is("41: so many", w.count(8), 4);
    }

    /** As a thing of that kind is at first, or otherwise. */
    private static void tellAct(WarmSide w, int kind, boolean otherwise) {
        switch (kind) {
            case 0: w.works(0, !otherwise); break;
            case 1: w.state(0, false, otherwise ? 2 : 0); break;
            case 2: w.state(1, true, otherwise ? 3 : 2); break;
            case 3: w.frozen(0, otherwise); break;
            default: w.face(1, otherwise ? 0 : 2); break;
        }
    }

    /** What is told of other things is no act: it can not be undone, and what was undone may still be done again. */
    private static void noActs() {
        WarmSide w = forActs();
        w.face(0, 1);
        w.face(0, 0);
        w.undo();
        w.plate(1, 1, 0);
        w.heat(0, 77);
        w.point(1, 90);
        w.coat(0, 0, true, 1);
        w.sun(0, 5);
        w.joint(0, 1, 1);
        w.pipe(0, 1, 1);
        w.box(0, 1);
        w.heater(0, 1);
        w.flap(0);
        Due.rule(w, "H0:h<1?1");
        w.year(3);
        w.span(0, 1);
        w.test(0, 1, 0, 1, 1);
        w.marks(0, 1, 2);
        w.freeze(1);
        Due.is("V: no acts", w.count(8), 1);
        Due.is("V: none came behind", w.redo(), 1);
        Due.is("V: done again", w.face(0, 0), 0);
        w.undo();
        w.undo();
        Due.is("V: no more", w.undo(), -3);
        Due.is("V: heat stays", w.of(0, 1), 77);
        Due.is("V: marks stay", w.of(0, 4), 2);
        Due.is("V: the flap stays", w.of(0, 2), 2);
    }

    private static void sixtyActs() {
        for (int n = 59; n <= 62; n++) {
            WarmSide w = Made.plates(1);
            for (int i = 0; i < n; i++) {
                w.face(0, i % 2);
            }
            int kept = Math.min(60, n);
            Due.is("V: kept of " + n, w.count(8), kept);
            for (int i = n - 1; i >= n - kept; i--) {
                Due.is("V: undone", w.undo(), 1);
                Due.is("V: as it was", w.face(0, i == 0 ? 2 : (i - 1) % 2), i == 0 ? 2 : (i - 1) % 2);
            }
            Due.is("V: no more of " + n, w.undo(), -3);
            for (int i = 0; i < kept; i++) {
                Due.is("V: done again", w.redo(), 1);
            }
            Due.is("V: no more again of " + n, w.redo(), -3);
            Due.is("V: as it was told", w.face(0, (n - 1) % 2), (n - 1) % 2);
            w.undo();
            w.face(0, 2);
            Due.is("V: so many again", w.count(8), kept);
        }
    }

    private static void forgotten() {
        for (int way = 0; way < 2; way++) {
            WarmSide w = forActs();
            w.face(0, 1);
            w.face(0, 0);
            w.undo();
            w.ticks(way == 0 ? 0 : 201);
            w.thaw(way == 0 ? 12 : -1);
            Due.is("V: what is refused forgets nothing", w.count(8), 1);
            Due.is("V: nor what is to be done again", w.redo(), 1);
            w.undo();
            if (way == 0) {
                w.ticks(1);
            } else {
                w.thaw(0);
            }
            Due.is("V: forgotten", w.count(8), 0);
            Due.is("V: none undone", w.undo(), -3);
            Due.is("V: none done again", w.redo(), -3);
            Due.is("V: all is as it was", w.face(0, 2), 1);
            Due.is("V: acts are kept anew", w.count(8), 1);
        }
    }

    /** Each number is counted by itself, a starred one too; -5 is never answered. */
    private static void refusalsApart() {
        WarmSide w = Made.plates(1);
        int[] due = new int[6];
        for (int i = 0; i < 20; i++) {
            int kind = i * 7 % 6;
            switch (kind) {
                case 0: w.rest(1, 0); due[0]++; break;
                case 1: w.sum(3); due[1]++; break;
                case 2: w.undo(); due[2]++; break;
                case 3: w.freeze(-1); due[3]++; break;
                case 4: w.share(0, 0, 3, true); due[1]++; break;
                default: w.freeze(601); due[5]++; break;
            }
            for (int k = 0; k < 6; k++) {
                Due.is("42: refusals of " + (-1 - k), w.count(11 + k), due[k]);
            }
        }
        w.bolt(0, 0, 0, 0);
        Due.is("42: a starred one of -1", w.count(11), due[0] + 1);
        for (int what : new int[] {Integer.MIN_VALUE, -1, 9, 10, 17, Integer.MAX_VALUE}) {
            Due.is("42: another what", w.count(what), -9);
        }
        Due.is("42: which is none of them", w.count(12), due[1]);
    }
}
