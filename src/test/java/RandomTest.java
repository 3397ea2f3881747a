import java.util.Random;

/** Runs of random calls, each asked of WarmSide and of Naive; the seeds are fixed, so a run can be had again. */
public final class RandomTest {
    private static final int RUNS = 1000;
    private static final int CALLS = 200;
    private static final int METHODS = 41;

    private static final int[] WILD = {
        Integer.MIN_VALUE, Integer.MIN_VALUE + 1, -1000000, -2, -1, 0, 1, 2, 3, 4, 8, 12, 20, 31, 32, 33, 40, 41, 255,
        256, 600, 601, 999, 1000, 10000, 60000, 1 << 30, Integer.MAX_VALUE - 1, Integer.MAX_VALUE,
    };

    private final Random random;
    /** In some runs every fourth number is a wild one. */
    private final boolean wild;
    private final WarmSide w = new WarmSide();
    private final Naive n = new Naive();
    private String call = "";
    private long got;
    private long want;

    private RandomTest(long seed) {
        random = new Random(seed);
        wild = seed % 10 == 0;
    }

    public static void main(String[] args) {
        int runs = args.length > 0 ? Integer.parseInt(args[0]) : RUNS;
        int first = args.length > 1 ? Integer.parseInt(args[1]) : 1;
        for (int seed = first; seed < first + runs; seed++) {
            new RandomTest(seed).run(seed);
        }
        Due.end();
    }

    private void run(int seed) {
        int parts = 15 + random.nextInt(50);
        int dear = random.nextInt(3);
        for (int i = 0; i < 2 + random.nextInt(4); i++) {
            plate();
        }
        for (int i = 0; i < CALLS; i++) {
            if (i < parts) {
                build(random.nextInt(20));
            } else {
                one(random.nextInt(METHODS), dear);
            }
            Due.is("seed " + seed + " call " + i + ": " + call, got, want);
            if (got != want) return;
        }
        for (int what = 0; what <= 16; what++) {
            Due.is("seed " + seed + " count(" + what + ")", w.count(what), n.count(what));
        }
    }

    /** Mostly a number from 0 to a bound, now and then one beyond its ends. */
    private int upTo(int bound) {
        if (wild && random.nextInt(4) == 0) return WILD[random.nextInt(WILD.length)];
        int dice = random.nextInt(60);
        if (dice == 0) return -1 - random.nextInt(2);
        if (dice == 1) return bound + 1 + random.nextInt(2);
        if (dice == 2) return bound;
        if (dice == 3) return 0;
        if (dice == 4 && random.nextInt(10) == 0) return random.nextInt();
        return random.nextInt(bound + 1);
    }

    private int some(int count) {
        return upTo(Math.max(0, n.count(count) - 1));
    }

    private int small(int bound) {
        return random.nextBoolean() ? upTo(bound) : upTo(Math.max(1, bound / 8));
    }

    private void say(String name, int... numbers) {
        StringBuilder b = new StringBuilder(name).append('(');
        for (int i = 0; i < numbers.length; i++) {
            b.append(i == 0 ? "" : ", ").append(numbers[i]);
        }
        call = b.append(')').toString();
    }

    private void answers(long mine, long due) {
        got = mine;
        want = due;
    }

    private void build(int kind) {
        int a = some(1);
        int b = some(1);
        switch (kind) {
            case 0: case 1: plate(); break;
            case 2: case 3: case 4: {
                int leads = small(99);
                say("joint", a, b, leads);
                answers(w.joint(a, b, leads), n.joint(a, b, leads));
                break;
            }
            case 5: case 6: {
                int leads = small(99);
                say("pipe", a, b, leads);
                answers(w.pipe(a, b, leads), n.pipe(a, b, leads));
                break;
            }
            case 7: case 8: {
                int watts = upTo(999);
                say("box", a, watts);
                answers(w.box(a, watts), n.box(a, watts));
                break;
            }
            case 9: case 14: {
                int watts = upTo(999);
                say("heater", a, watts);
                answers(w.heater(a, watts), n.heater(a, watts));
                break;
            }
            case 10: say("flap", a); answers(w.flap(a), n.flap(a)); break;
            case 11: case 12: {
                int hour = upTo(11);
                int v = upTo(999);
                say("sun", hour, v);
                answers(w.sun(hour, v), n.sun(hour, v));
                break;
            }
            case 13: coat(); break;
            case 15: case 16: case 17: text(); break;
            default: {
                int v = upTo(59999);
                say("heat", a, v);
                answers(w.heat(a, v), n.heat(a, v));
                break;
            }
        }
    }

    private void plate() {
        int mass = upTo(99);
        int area = upTo(20);
        int coat = upTo(3);
        say("plate", mass, area, coat);
        answers(w.plate(mass, area, coat), n.plate(mass, area, coat));
    }

    private void coat() {
        int coat = upTo(3);
        int year = upTo(9);
        int v = small(100);
        boolean sends = random.nextBoolean();
        say("coat", coat, year, sends ? 1 : 0, v);
        answers(w.coat(coat, year, sends, v), n.coat(coat, year, sends, v));
    }

    private void point() {
        int k = upTo(6);
        int v = random.nextBoolean() ? small(9999) : 100 * k * k + random.nextInt(300) - 150;
        say("point", k, v);
        answers(w.point(k, v), n.point(k, v));
    }

    /** A whole text, right or with a fault, fed and made a rule. */
    private void text() {
        String t = words();
        for (int i = 0; i < 20 && t.length() > 40 - n.count(7); i++) {
            t = words();
        }
        int dice = random.nextInt(4);
        if (dice == 0 && t.length() > 0) {
            int at = random.nextInt(t.length());
            String signs = "HFwsh<=>!()&|?;:0123456789x";
            char c = signs.charAt(random.nextInt(signs.length()));
            int way = random.nextInt(3);
            t = way == 0 ? t.substring(0, at) : t.substring(0, at) + c + t.substring(way == 1 ? at : at + 1);
        }
        if (t.length() > 40 - n.count(7)) t = t.substring(0, 40 - n.count(7));
        for (int from = 0; from < t.length(); from += 8) {
            int m = Math.min(8, t.length() - from);
            long bytes = Due.packed(t, from, m);
            w.feed(m, bytes);
            n.feed(m, bytes);
        }
        call = "text of " + t;
        answers(w.text(), n.text());
    }

    private String words() {
        boolean heater = random.nextInt(3) > 0;
        StringBuilder b = new StringBuilder(heater ? "H" : "F");
        b.append(Math.max(0, Math.min(9, some(heater ? 5 : 1)))).append(':');
        int cases = 1 + random.nextInt(2);
        for (int i = 0; i < cases; i++) {
            if (i > 0) b.append(';');
            test(b, 0);
            b.append('?').append(random.nextInt(heater ? 2 : 3));
        }
        return b.toString();
    }

    private void test(StringBuilder b, int depth) {
        int parts = random.nextInt(4) == 0 ? 2 + random.nextInt(2) : 1;
        for (int i = 0; i < parts; i++) {
            if (i > 0) b.append(random.nextBoolean() ? '&' : '|');
            part(b, depth);
        }
    }

    private void part(StringBuilder b, int depth) {
        int dice = random.nextInt(6);
        if (depth < 6 && dice == 0) {
            part(b.append('!'), depth + 1);
        } else if (depth < 6 && dice == 1) {
            test(b.append('('), depth + 1);
            b.append(')');
        } else {
            int kind = random.nextInt(4);
            b.append(kind == 0 ? "s" : kind == 1 ? "h" : "w" + random.nextInt(random.nextInt(5) == 0 ? 10 : 4));
            b.append("<=>".charAt(random.nextInt(3)));
            b.append(kind == 1 ? random.nextInt(12) : random.nextInt(kind == 0 ? 1000 : 620));
        }
    }

    private void one(int method, int dear) {
        int p = some(1);
        int hour = upTo(11);
        boolean yes = random.nextBoolean();
        switch (method) {
            case 0: build(random.nextInt(20)); break;
            case 1: { int v = upTo(59999); say("heat", p, v); answers(w.heat(p, v), n.heat(p, v)); break; }
            case 2: point(); break;
            case 3: coat(); break;
            case 4: { int v = upTo(999); say("sun", hour, v); answers(w.sun(hour, v), n.sun(hour, v)); break; }
            case 5: { int v = upTo(2); say("face", p, v); answers(w.face(p, v), n.face(p, v)); break; }
            case 6: case 7: {
                int k = some(3);
                boolean ice = random.nextInt(4) > 0;
                say("frozen", k, ice ? 1 : 0);
                answers(w.frozen(k, ice), n.frozen(k, ice));
                break;
            }
            case 8: {
                int k = some(4);
                say("works", k, yes ? 1 : 0);
                answers(w.works(k, yes), n.works(k, yes));
                break;
            }
            case 9: case 10: {
                int k = some(yes ? 1 : 5);
                int v = upTo(3);
                say("state", k, yes ? 1 : 0, v);
                answers(w.state(k, yes, v), n.state(k, yes, v));
                break;
            }
            case 11: {
                int m = upTo(8);
                long bytes = random.nextLong();
                call = "feed(" + m + ", " + bytes + ")";
                answers(w.feed(m, bytes), n.feed(m, bytes));
                break;
            }
            case 12: say("text"); answers(w.text(), n.text()); break;
            case 13: text(); break;
            case 14: { int v = upTo(9); say("year", v); answers(w.year(v), n.year(v)); break; }
            case 15: { int v = small(200); say("ticks", v); answers(w.ticks(v), n.ticks(v)); break; }
            case 16: { int v = upTo(4); say("of", p, v); answers(w.of(p, v), n.of(p, v)); break; }
            case 17: { int v = upTo(2); say("sum", v); answers(w.sum(v), n.sum(v)); break; }
            case 18: case 19: say("rest", p, hour); answers(w.rest(p, hour), n.rest(p, hour)); break;
            case 20: { int v = upTo(6) - 1; say("rests", hour, v); answers(w.rests(hour, v), n.rests(hour, v)); break; }
            case 21: {
                int k = upTo(2);
                int v = upTo(50);
                say("span", k, v);
                answers(w.span(k, v), n.span(k, v));
                break;
            }
            case 22: say("worst", p, hour, yes ? 1 : 0); answers(w.worst(p, hour, yes), n.worst(p, hour, yes)); break;
            case 23: { int v = upTo(1); say("repeat", v); answers(w.repeat(v), n.repeat(v)); break; }
            case 24: {
                int v = upTo(600);
                say("age", p, hour, v, yes ? 1 : 0);
                answers(w.age(p, hour, v, yes), n.age(p, hour, v, yes));
                break;
            }
            default: more(method, dear, p, hour, yes); break;
        }
    }

    private void more(int method, int dear, int p, int hour, boolean yes) {
        switch (method) {
            case 25: {
                int j = some(2);
                int v = upTo(1);
                say("bolt", j, p, hour, v);
                answers(w.bolt(j, p, hour, v), n.bolt(j, p, hour, v));
                break;
            }
            case 26: say("matters", p, hour); answers(w.matters(p, hour), n.matters(p, hour)); break;
            case 27: test(); break;
            case 28: {
                if (dear != 0) break;
                int j = some(2);
                int v = upTo(2);
                say("fits", j, v);
                answers(w.fits(j, v), n.fits(j, v));
                break;
            }
            case 29: {
                if (dear != 1) break;
                int boxes = random.nextInt(1 << n.count(4)) & random.nextInt(256);
                int plates = upTo((1 << n.count(1)) - 1);
                int v = upTo(3);
                say("place", hour, boxes, plates, v);
                answers(w.place(hour, boxes, plates, v), n.place(hour, boxes, plates, v));
                break;
            }
            case 30: case 31: {
                int least = small(600);
                int most = random.nextBoolean() ? upTo(600) : n.warmthOrNone(p) + random.nextInt(60);
                say("marks", p, least, most);
                answers(w.marks(p, least, most), n.marks(p, least, most));
                break;
            }
            case 32: {
                int k = some(5);
                say("fails", k, yes ? 1 : 0, hour);
                answers(w.fails(k, yes, hour), n.fails(k, yes, hour));
                break;
            }
            case 33: { int v = small(300); say("freeze", v); answers(w.freeze(v), n.freeze(v)); break; }
            case 34: { int v = small(8); say("thaws", hour, v); answers(w.thaws(hour, v), n.thaws(hour, v)); break; }
            case 35: if (!yes) break; say("thaw", hour); answers(w.thaw(hour), n.thaw(hour)); break;
            case 36: if (dear != 2) break; work(some(4)); break;
            case 37: {
                int c = upTo(2);
                say("share", p, hour, c, yes ? 1 : 0);
                answers(w.share(p, hour, c, yes), n.share(p, hour, c, yes));
                break;
            }
            case 38: case 39: if (yes) { say("undo"); answers(w.undo(), n.undo()); break; }
                say("redo"); answers(w.redo(), n.redo()); break;
            default: { int v = upTo(17); say("count", v); answers(w.count(v), n.count(v)); break; }
        }
    }

    /** Marks a little above what the plates have now, so that a box may work in some hours only. */
    private void work(int box) {
        for (int p = 0; p < n.count(1) && random.nextInt(3) > 0; p++) {
            int most = Math.min(600, n.warmthOrNone(p) + random.nextInt(random.nextBoolean() ? 20 : 200));
            w.marks(p, 0, most);
            n.marks(p, 0, most);
        }
        say("work", box);
        answers(w.work(box), n.work(box));
    }

    /** Most tests in a can tell nearly the warmth that would be had, so that some leads fit and others do not. */
    private void test() {
        int on = some(1);
        int of = some(1);
        int watts = upTo(999);
        int warmth = upTo(600);
        int doubt = random.nextBoolean() ? 99 : upTo(99);
        int joint = some(2);
        if (random.nextInt(4) > 0) {
            int seen = n.canned(on, watts, of, joint, 1 + random.nextInt(40));
            if (seen >= 0) warmth = Math.min(600, seen + random.nextInt(5));
            doubt = random.nextInt(10);
        }
        say("test", on, watts, of, warmth, doubt);
        answers(w.test(on, watts, of, warmth, doubt), n.test(on, watts, of, warmth, doubt));
    }
}
