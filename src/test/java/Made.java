/** Objects for tests. The same calls make each of a kind, so two of one kind are twins. */
final class Made {
    private Made() {
    }

    static WarmSide bare() {
        return new WarmSide();
    }

    /** Plates of mass 10, area 1 and a coat that sends all in every year: what one sends is the table's number. */
    static WarmSide plates(int n) {
        WarmSide w = new WarmSide();
        for (int p = 0; p < n; p++) {
            w.plate(10, 1, 0);
        }
        for (int y = 0; y <= 9; y++) {
            w.coat(0, y, true, 100);
        }
        return w;
    }

    /** What such a plate sends at a warmth, by the table as it is at first. */
    static int sending(int t) {
        int k = t / 100;
        return 100 * k * k + (200 * k + 100) * (t % 100) / 100;
    }

    /** Two plates, the first of which keeps all that it has, the second never warmer than 0; nothing joins them yet. */
    static WarmSide keeperAndSink() {
        WarmSide w = new WarmSide();
        w.plate(10, 1, 0);
        w.plate(10, 20, 1);
        w.coat(0, 0, true, 0);
        w.coat(1, 0, true, 100);
        for (int k = 6; k >= 0; k--) {
            w.point(k, 9999);
        }
        return w;
    }

    /** Some of everything with room left; a text has begun; of five acts two are undone; plate 1 alone has a flap. */
    static WarmSide some() {
        WarmSide w = plates(3);
        w.sun(0, 300);
        w.sun(5, 500);
        w.heat(0, 1500);
        w.heat(1, 700);
        w.joint(0, 1, 4);
        w.joint(1, 2, 9);
        w.pipe(0, 2, 5);
        w.pipe(2, 1, 3);
        w.box(0, 400);
        w.box(1, 150);
        w.heater(2, 100);
        w.heater(0, 50);
        w.flap(1);
        Due.rule(w, "H0:w2<150?1;w2>180?0");
        Due.rule(w, "F1:h>6?0;h<3?2");
        w.test(0, 400, 0, 161, 90);
        w.marks(0, 5, 400);
        w.freeze(20);
        w.span(0, 10);
        w.span(1, 20);
        w.span(2, 30);
        w.year(2);
        w.ticks(5);
        acts(w);
        Due.feed(w, "H1:h<6");
        return w;
    }

    private static void acts(WarmSide w) {
        w.works(1, false);
        w.state(1, false, 1);
        w.state(1, true, 1);
        w.frozen(1, true);
        w.face(0, 1);
        w.undo();
        w.undo();
    }

    /** As many of everything as there may be; every plate but the last has a flap; a text of 40 bytes has come. */
    static WarmSide full() {
        WarmSide w = plates(8);
        w.sun(0, 300);
        for (int j = 0; j < 20; j++) {
            w.joint(j % 8, (j + 1 + j / 8) % 8, 1 + j);
        }
        for (int k = 0; k < 8; k++) {
            w.pipe(k, (k + 3) % 8, 2 + k);
            w.box(k, 100 * k);
            if (k < 4) w.heater(k, 50);
            if (k < 7) w.flap(k);
        }
        for (int t = 0; t < 10; t++) {
            w.test(t % 8, 100 * t, 0, 100, 99);
        }
        Due.rule(w, "H3:h<6?1;h>5?0");
        w.ticks(3);
        acts(w);
        Due.feed(w, "H0:h=0&h=0&h=0&h=0&h=0&h=0&h=0&h=0&h=0?1");
        return w;
    }

    /** A plate with a box and a heater, behind as many ticks as there may be. */
    static WarmSide late() {
        WarmSide w = plates(1);
        w.box(0, 200);
        w.heater(0, 30);
        Due.rule(w, "H0:h<6?1;h>5?0");
        for (int i = 0; i < 49; i++) {
            w.ticks(200);
        }
        w.ticks(199);
        w.works(0, false);
        return w;
    }

    /** Sixty acts, all of which may be undone. */
    static WarmSide busy() {
        WarmSide w = plates(2);
        w.sun(0, 400);
        for (int i = 0; i < 60; i++) {
            w.face(i % 2, i / 2 % 3);
            if (i == 0) w.pipe(0, 1, 7);
        }
        return w;
    }
}
