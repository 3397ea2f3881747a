import java.util.ArrayList;
import java.util.List;

/** Asks an object for all that it can tell, and spoils it by that: two objects that answer alike were alike. */
final class Probe {
    private final WarmSide w;
    private final int plates;
    private final List<Long> told = new ArrayList<>();

    private Probe(WarmSide w) {
        this.w = w;
        plates = w.count(1);
    }

    /** How many refusals there were, -1 first. */
    static int[] refusals(WarmSide w) {
        int[] all = new int[6];
        for (int i = 0; i < 6; i++) {
            all[i] = w.count(11 + i);
        }
        return all;
    }

    static List<Long> of(WarmSide w) {
        Probe probe = new Probe(w);
        probe.counts();
        probe.plates();
        probe.rests();
        probe.questions();
        probe.acts();
        probe.rules();
        probe.tables();
        return probe.told;
    }

    private void tell(long answer) {
        told.add(answer);
    }

    private void counts() {
        for (int what = 0; what <= 8; what++) {
            tell(w.count(what));
        }
        for (int what = 0; what <= 2; what++) {
            tell(w.sum(what));
        }
    }

    private void plates() {
        for (int p = 0; p < plates; p++) {
            for (int what = 0; what <= 4; what++) {
                tell(w.of(p, what));
            }
        }
    }

    private void rests() {
        for (int p = 0; p < plates; p++) {
            tell(w.rest(p, 0));
            tell(w.worst(p, 5, true));
        }
        tell(w.rests(0, -1));
        tell(w.rests(0, 0));
        tell(w.repeat(0));
        tell(w.repeat(1));
    }

    private void questions() {
        tell(w.matters(0, 0));
        tell(w.age(0, 0, 100, true));
        tell(w.bolt(0, 0, 0, 1));
        tell(w.fits(0, 0));
        tell(w.fits(0, 1));
        for (int what = 0; what <= 2; what++) {
            tell(w.place(0, 3, 7, what));
        }
        tell(w.fails(0, true, 0));
        tell(w.thaws(0, 0));
        tell(w.thaws(0, 1));
        tell(w.work(0));
        tell(w.share(0, 0, 2, false));
    }

    private void acts() {
        int undone = 0;
        while (undone < 61 && w.undo() == 1) {
            undone++;
        }
        tell(undone);
        tell(w.rest(0, 0));
        tell(w.rest(1, 0));
        int redone = 0;
        while (redone < 61 && w.redo() == 1) {
            redone++;
        }
        tell(redone);
        tell(w.rest(0, 0));
        tell(w.rest(1, 0));
    }

    /** The end of the text that Made.some begins, and ticks in which texts rule. */
    private void rules() {
        tell(w.feed(2, '?' | '1' << 8));
        tell(w.text());
        for (int i = 0; i < 2; i++) {
            tell(w.ticks(7));
            for (int p = 0; p < plates; p++) {
                tell(w.of(p, 1));
                tell(w.of(p, 2));
            }
        }
        for (int what = 0; what <= 2; what++) {
            tell(w.sum(what));
        }
    }

    private void tables() {
        for (int k = 6; k >= 0; k--) {
            tell(w.point(k, 9999));
        }
        for (int i = 0; i < 80; i++) {
            tell(w.coat(i / 20, i % 10, i / 10 % 2 == 0, 0));
        }
        for (int h = 0; h < 12; h++) {
            tell(w.sun(h, 0));
        }
        for (int what = 0; what <= 2; what++) {
            tell(w.span(what, 0));
        }
        tell(w.freeze(0));
        tell(w.year(0));
        for (int p = 0; p < plates; p++) {
            tell(w.face(p, 0));
        }
        for (int k = 0, n = w.count(5); k < n; k++) {
            tell(w.state(k, false, 0));
        }
        for (int k = 0, n = w.count(3); k < n; k++) {
            tell(w.frozen(k, false));
        }
        for (int k = 0, n = w.count(4); k < n; k++) {
            tell(w.works(k, false));
        }
    }
}
