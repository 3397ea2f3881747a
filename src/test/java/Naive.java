import java.util.ArrayList;
import java.util.Arrays;
import java.util.List;

/**
 * The document once more, written apart from WarmSide and as slowly as its words are read: every set, every order,
 * every degree is tried. It is what RandomTest compares WarmSide with.
 */
final class Naive {
    private static final class Plate {
        int mass, area, coat, heat, face = 2, flap = -9, stuckAt = 2, least = 0, most = 600;
        String rule;

        int warmth() {
            return Math.min(600, heat / mass);
        }

        int opening() {
            return flap == -9 ? 2 : flap == 3 ? stuckAt : flap;
        }
    }

    private static final class Link {
        int a, b, leads;
        boolean frozen;
    }

    private static final class Box {
        int plate, watts;
        boolean works = true;
    }

    private static final class Heater {
        int plate, watts, state;
        String rule;

        boolean on() {
            return state == 1 || state == 3;
        }
    }

    private final List<Plate> plates = new ArrayList<>();
    private final List<Link> joints = new ArrayList<>();
    private final List<Link> pipes = new ArrayList<>();
    private final List<Box> boxes = new ArrayList<>();
    private final List<Heater> heaters = new ArrayList<>();
    private final List<int[]> tests = new ArrayList<>();
    private final int[] points = {0, 100, 400, 900, 1600, 2500, 3600};
    private final int[][] takes = new int[4][10];
    private final int[][] sends = new int[4][10];
    private final int[] sun = new int[12];
    private final int[] spans = new int[3];
    private final int[] refused = new int[7];
    private final long[] sums = new long[3];
    private int year = 0;
    private int freeze = 200;
    private int ticks = 0;
    private String text = "";
    private List<int[]> before = new ArrayList<>();
    private List<int[]> behind = new ArrayList<>();

    Naive() {
        for (int c = 0; c < 4; c++) {
            Arrays.fill(takes[c], 50);
            Arrays.fill(sends[c], 50);
        }
    }

    private int no(int number) {
        refused[-number]++;
        return number;
    }

    private boolean isPlate(int p) {
        return p >= 0 && p < plates.size();
    }

    private static boolean isHour(int h) {
        return h >= 0 && h <= 11;
    }

    int plate(int mass, int area, int coat) {
        if (coat < 0 || coat > 3) return no(-1);
        if (mass < 1 || area < 1) return no(-4);
        if (mass > 99 || area > 20 || plates.size() == 8) return no(-6);
        Plate p = new Plate();
        p.mass = mass;
        p.area = area;
        p.coat = coat;
        plates.add(p);
        return plates.size() - 1;
    }

    int heat(int plate, int v) {
        if (!isPlate(plate)) return no(-1);
        if (v < 0) return no(-4);
        if (v > 59999) return no(-6);
        int was = plates.get(plate).heat;
        plates.get(plate).heat = v;
        return was;
    }

    int point(int k, int v) {
        if (k < 0 || k > 6) return no(-1);
        if (v < 0) return no(-4);
        if (v > 9999) return no(-6);
        int was = points[k];
        points[k] = v;
        for (int i = 1; i <= 6; i++) {
            if (points[i] < points[i - 1]) {
                points[k] = was;
                return no(-3);
            }
        }
        return was;
    }

    int coat(int coat, int y, boolean out, int v) {
        if (coat < 0 || coat > 3 || y < 0 || y > 9) return no(-1);
        if (v < 0) return no(-4);
        if (v > 100) return no(-6);
        int[][] rows = out ? sends : takes;
        int was = rows[coat][y];
        rows[coat][y] = v;
        return was;
    }

    int sun(int hour, int v) {
        if (!isHour(hour)) return no(-1);
        if (v < 0) return no(-4);
        if (v > 999) return no(-6);
        int was = sun[hour];
        sun[hour] = v;
        return was;
    }

    int face(int plate, int v) {
        if (!isPlate(plate)) return no(-1);
        if (v < 0 || v > 2) return no(-2);
        int was = plates.get(plate).face;
        int[] old = states();
        plates.get(plate).face = v;
        act(old);
        return was;
    }

    private int link(List<Link> links, int room, int a, int b, int leads) {
        if (!isPlate(a) || !isPlate(b) || a == b) return no(-1);
        if (leads < 1) return no(-4);
        if (leads > 99 || links.size() == room) return no(-6);
        Link l = new Link();
        l.a = a;
        l.b = b;
        l.leads = leads;
        links.add(l);
        return links.size() - 1;
    }

    int joint(int a, int b, int leads) {
        return link(joints, 20, a, b, leads);
    }

    int pipe(int a, int b, int leads) {
        return link(pipes, 8, a, b, leads);
    }

    int frozen(int pipe, boolean on) {
        if (pipe < 0 || pipe >= pipes.size()) return no(-1);
        if (pipes.get(pipe).frozen == on) return 0;
        int[] old = states();
        pipes.get(pipe).frozen = on;
        act(old);
        return 1;
    }

    int box(int plate, int watts) {
        if (!isPlate(plate)) return no(-1);
        if (watts < 0) return no(-4);
        if (watts > 999 || boxes.size() == 8) return no(-6);
        Box b = new Box();
        b.plate = plate;
        b.watts = watts;
        boxes.add(b);
        return boxes.size() - 1;
    }

    int works(int box, boolean on) {
        if (box < 0 || box >= boxes.size()) return no(-1);
        if (boxes.get(box).works == on) return 0;
        int[] old = states();
        boxes.get(box).works = on;
        act(old);
        return 1;
    }

    int heater(int plate, int watts) {
        if (!isPlate(plate)) return no(-1);
        if (watts < 1) return no(-4);
        if (watts > 999 || heaters.size() == 4) return no(-6);
        Heater h = new Heater();
        h.plate = plate;
        h.watts = watts;
        heaters.add(h);
        return heaters.size() - 1;
    }

    int flap(int plate) {
        if (!isPlate(plate)) return no(-1);
        if (plates.get(plate).flap != -9) return no(-3);
        plates.get(plate).flap = 2;
        return 1;
    }

    int state(int k, boolean flap, int v) {
        if (k < 0 || k >= (flap ? plates.size() : heaters.size())) return no(-1);
        if (flap && plates.get(k).flap == -9) return no(-3);
        if (v < 0 || v > 3) return no(-2);
        int[] old = states();
        int was;
        if (flap) {
            was = plates.get(k).flap;
            if (v == 3 && was != 3) plates.get(k).stuckAt = was;
            plates.get(k).flap = v;
        } else {
            was = heaters.get(k).state;
            heaters.get(k).state = v;
        }
        if (was != v) act(old);
        return was;
    }

    int feed(int n, long bytes) {
        if (n < 1) return no(-4);
        if (n > 8 || text.length() + n > 40) return no(-6);
        for (int i = 0; i < n; i++) {
            text += (char) (bytes >>> 8 * i & 255);
        }
        return text.length();
    }

    int text() {
        String all = text;
        text = "";
        int fault = fault(all);
        if (fault >= 0) return -20 - fault;
        int k = all.charAt(1) - '0';
        String cases = all.substring(3);
        if (all.charAt(0) == 'H') {
            heaters.get(k).rule = cases;
        } else {
            plates.get(k).rule = cases;
        }
        return 1;
    }

    /**
     * The fault of a text: of each beginning it is asked whether some text begins so. What may come next is held as a
     * state and a pile of open "!" and "(", with no parser by levels.
     */
    private int fault(String t) {
        if (t.length() == 0 || t.charAt(0) != 'H' && t.charAt(0) != 'F') return 0;
        boolean heater = t.charAt(0) == 'H';
        if (t.length() == 1) return 1;
        int k = t.charAt(1) - '0';
        boolean named = heater ? k >= 0 && k < heaters.size() : k >= 0 && k < plates.size() && plates.get(k).flap != -9;
        if (!named) return 1;
        if (t.length() == 2 || t.charAt(2) != ':') return 2;
        String expect = "part";
        String open = "";
        int digits = 0;
        for (int i = 3; i < t.length(); i++) {
            char c = t.charAt(i);
            boolean digit = c >= '0' && c <= '9';
            if (expect.equals("part")) {
                if (c == '!' || c == '(') {
                    if (open.length() == 4) return i;
                    open += c;
                } else if (c == 'w') {
                    expect = "plate";
                } else if (c == 's' || c == 'h') {
                    expect = "sign";
                } else {
                    return i;
                }
            } else if (expect.equals("plate")) {
                if (!digit) return i;
                expect = "sign";
            } else if (expect.equals("sign")) {
                if (c != '<' && c != '=' && c != '>') return i;
                expect = "number";
                digits = 0;
            } else if (expect.equals("number") && digit && digits < 3) {
                digits++;
            } else if (expect.equals("number") && digits == 0) {
                return i;
            } else if (expect.equals("number") || expect.equals("behind")) {
                while (open.endsWith("!")) {
                    open = open.substring(0, open.length() - 1);
                }
                if (c == '&' || c == '|') {
                    expect = "part";
                } else if (c == ')' && open.length() > 0) {
                    open = open.substring(0, open.length() - 1);
                    expect = "behind";
                } else if (c == '?' && open.length() == 0) {
                    expect = "state";
                } else {
                    return i;
                }
            } else if (expect.equals("state")) {
                if (c < '0' || c > (heater ? '1' : '2')) return i;
                expect = "more";
            } else {
                if (c != ';') return i;
                expect = "part";
            }
        }
        return expect.equals("more") ? -1 : t.length();
    }

    /** The state that a rule tells, or -1. */
    private int told(String rule, int[] warm, int hour) {
        for (String one : rule.split(";")) {
            int ask = one.indexOf('?');
            if (truth(one.substring(0, ask), warm, hour)) return one.charAt(ask + 1) - '0';
        }
        return -1;
    }

    private boolean truth(String s, int[] warm, int hour) {
        int or = outer(s, '|');
        if (or >= 0) return truth(s.substring(0, or), warm, hour) || truth(s.substring(or + 1), warm, hour);
        int and = outer(s, '&');
        if (and >= 0) return truth(s.substring(0, and), warm, hour) && truth(s.substring(and + 1), warm, hour);
        if (s.charAt(0) == '!') return !truth(s.substring(1), warm, hour);
        if (s.charAt(0) == '(') return truth(s.substring(1, s.length() - 1), warm, hour);
        int at = s.charAt(0) == 'w' ? 2 : 1;
        int value = s.charAt(0) == 's' ? sun[hour] : hour;
        if (s.charAt(0) == 'w') {
            int p = s.charAt(1) - '0';
            value = p < plates.size() ? warm[p] : 0;
        }
        int number = Integer.parseInt(s.substring(at + 1));
        char sign = s.charAt(at);
        return sign == '<' ? value < number : sign == '=' ? value == number : value > number;
    }

    private static int outer(String s, char sign) {
        int depth = 0;
        for (int i = 0; i < s.length(); i++) {
            if (s.charAt(i) == '(') depth++;
            if (s.charAt(i) == ')') depth--;
            if (depth == 0 && s.charAt(i) == sign) return i;
        }
        return -1;
    }

    int year(int v) {
        if (v < 0 || v > 9) return no(-1);
        int was = year;
        year = v;
        return was;
    }

    private int sending(int t) {
        if (t == 600) return points[6];
        int k = t / 100;
        return points[k] + (points[k + 1] - points[k]) * (t - 100 * k) / 100;
    }

    private int letOut(int t, int opening) {
        int all = sending(t);
        return opening == 0 ? all / 5 : opening == 1 ? all / 2 : all;
    }

    private void tick(int hour, long[] told) {
        int n = plates.size();
        int[] warm = new int[8];
        for (int p = 0; p < n; p++) {
            warm[p] = plates.get(p).warmth();
        }
        for (Heater h : heaters) {
            if (h.state > 1 || h.rule == null) continue;
            int s = told(h.rule, warm, hour);
            if (s >= 0) h.state = s;
        }
        for (Plate p : plates) {
            if (p.flap == -9 || p.flap == 3 || p.rule == null) continue;
            int s = told(p.rule, warm, hour);
            if (s >= 0) p.flap = s;
        }
        long[] heat = new long[n];
        long[] out = new long[n];
        for (int p = 0; p < n; p++) {
            Plate a = plates.get(p);
            long in = (long) a.area * sun[hour] * takes[a.coat][year] * a.face / 200;
            told[0] += in;
            out[p] = (long) a.area * letOut(warm[p], a.opening()) * sends[a.coat][year] / 100;
            heat[p] = a.heat + in - out[p];
        }
        for (Box b : boxes) {
            if (b.works) {
                heat[b.plate] += b.watts;
                told[1] += b.watts;
            }
        }
        for (Heater h : heaters) {
            if (h.on()) {
                heat[h.plate] += h.watts;
                told[1] += h.watts;
            }
        }
        for (Link j : joints) {
            heat[j.a] -= j.leads * (warm[j.a] - warm[j.b]);
            heat[j.b] -= j.leads * (warm[j.b] - warm[j.a]);
        }
        for (Link j : pipes) {
            if (j.frozen || warm[j.a] <= warm[j.b]) continue;
            heat[j.a] -= j.leads * (warm[j.a] - warm[j.b]);
            heat[j.b] += j.leads * (warm[j.a] - warm[j.b]);
        }
        for (int p = 0; p < n; p++) {
            if (heat[p] < 0) {
                out[p] = Math.max(0, out[p] + heat[p]);
                heat[p] = 0;
            }
            told[2] += out[p];
            plates.get(p).heat = (int) heat[p];
        }
    }

    int ticks(int n) {
        if (n < 1) return no(-4);
        if (n > 200 || ticks + n > 9999) return no(-6);
        for (int i = 0; i < n; i++) {
            tick(ticks % 12, sums);
            ticks++;
        }
        before.clear();
        behind.clear();
        return ticks;
    }

    int of(int plate, int what) {
        if (!isPlate(plate)) return no(-1);
        Plate p = plates.get(plate);
        if (what == 0) return p.warmth();
        if (what == 1) return p.heat;
        if (what == 2) return p.flap;
        if (what == 3) return p.least;
        if (what == 4) return p.most;
        return no(-2);
    }

    long sum(int what) {
        return what < 0 || what > 2 ? no(-2) : sums[what];
    }

    /** What a rest may have that is not as now. */
    private final class Other {
        int sunNow;
        int yearNow = year;
        int watts = 100;
        int sending = 100;
        boolean open = false;
        boolean[] on = new boolean[8];
        boolean[] works = new boolean[8];
        int[] where = new int[8];
        int[] leads = new int[20];
        boolean[] ice = new boolean[8];
        int extraOn = -1;
        int extra = 0;

        Other(int hour) {
            sunNow = sun[hour];
            for (int k = 0; k < heaters.size(); k++) {
                on[k] = heaters.get(k).on();
            }
            for (int k = 0; k < boxes.size(); k++) {
                works[k] = boxes.get(k).works;
                where[k] = boxes.get(k).plate;
            }
            for (int k = 0; k < joints.size(); k++) {
                leads[k] = joints.get(k).leads;
            }
            for (int k = 0; k < pipes.size(); k++) {
                ice[k] = pipes.get(k).frozen;
            }
        }

        Other worst(boolean hot) {
            sunNow = sunNow * (hot ? 100 + spans[0] : 100 - spans[0]) / 100;
            watts = hot ? 100 + spans[1] : 100 - spans[1];
            sending = hot ? 100 - spans[2] : 100 + spans[2];
            return this;
        }

        private boolean loses(int p, int[] w) {
            Plate a = plates.get(p);
            int sum = a.area * sunNow * takes[a.coat][yearNow] * a.face / 200;
            int out = Math.min(100, sends[a.coat][yearNow] * sending / 100);
            sum -= a.area * letOut(w[p], open ? 2 : a.opening()) * out / 100;
            for (int k = 0; k < boxes.size(); k++) {
                if (works[k] && where[k] == p) sum += boxes.get(k).watts * watts / 100;
            }
            if (extraOn == p) sum += extra;
            for (int k = 0; k < heaters.size(); k++) {
                if (on[k] && heaters.get(k).plate == p) sum += heaters.get(k).watts;
            }
            for (int k = 0; k < joints.size(); k++) {
                Link j = joints.get(k);
                if (j.a == p) sum += leads[k] * (w[j.b] - w[p]);
                if (j.b == p) sum += leads[k] * (w[j.a] - w[p]);
            }
            for (int k = 0; k < pipes.size(); k++) {
                Link j = pipes.get(k);
                if (ice[k] || w[j.a] <= w[j.b]) continue;
                if (j.a == p) sum -= j.leads * (w[p] - w[j.b]);
                if (j.b == p) sum += j.leads * (w[j.a] - w[p]);
            }
            return sum < 0;
        }

        int[] rest() {
            int[] w = new int[8];
            Arrays.fill(w, 0, plates.size(), 600);
            for (boolean again = true; again;) {
                again = false;
                for (int p = 0; p < plates.size(); p++) {
                    if (w[p] > 0 && loses(p, w)) {
                        w[p]--;
                        again = true;
                    }
                }
            }
            return w;
        }
    }

    int rest(int plate, int hour) {
        if (!isPlate(plate) || !isHour(hour)) return no(-1);
        return new Other(hour).rest()[plate];
    }

    int rests(int hour, int i) {
        if (!isHour(hour)) return no(-1);
        if (i < -1) return no(-4);
        List<Integer> all = new ArrayList<>();
        for (int bits = 0; bits < 1 << heaters.size(); bits++) {
            Other o = new Other(hour);
            boolean fits = true;
            for (int k = 0; k < heaters.size(); k++) {
                boolean on = (bits >> k & 1) == 1;
                if (!varies(heaters.get(k)) && on != heaters.get(k).on()) fits = false;
                o.on[k] = on;
            }
            if (!fits) continue;
            int[] w = o.rest();
            for (int k = 0; k < heaters.size(); k++) {
                if (!varies(heaters.get(k))) continue;
                int s = told(heaters.get(k).rule, w, hour);
                if (s >= 0 && s != (bits >> k & 1)) fits = false;
            }
            if (fits) all.add(bits);
        }
        return i == -1 ? all.size() : i < all.size() ? all.get(i) : -9;
    }

    private static boolean varies(Heater h) {
        return h.state < 2 && h.rule != null;
    }

    int span(int what, int v) {
        if (what < 0 || what > 2) return no(-2);
        if (v < 0) return no(-4);
        if (v > 50) return no(-6);
        int was = spans[what];
        spans[what] = v;
        return was;
    }

    int worst(int plate, int hour, boolean hot) {
        if (!isPlate(plate) || !isHour(hour)) return no(-1);
        return new Other(hour).worst(hot).rest()[plate];
    }

    private int[] heats() {
        int[] all = new int[8];
        for (int p = 0; p < plates.size(); p++) {
            all[p] = plates.get(p).heat;
        }
        return all;
    }

    private void back(int[] heats, int[] states) {
        for (int p = 0; p < plates.size(); p++) {
            plates.get(p).heat = heats[p];
        }
        setStates(states);
    }

    int repeat(int what) {
        if (what < 0 || what > 1) return no(-2);
        int[] heats = heats();
        int[] states = states();
        List<String> seen = new ArrayList<>();
        seen.add(Arrays.toString(heats) + Arrays.toString(states));
        int answer = -9;
        for (int round = 1; round <= 60; round++) {
            for (int i = 0; i < 12; i++) {
                tick((ticks + i) % 12, new long[3]);
            }
            String now = Arrays.toString(heats()) + Arrays.toString(states());
            if (seen.contains(now)) {
                answer = what == 0 ? round : seen.indexOf(now);
                break;
            }
            seen.add(now);
        }
        back(heats, states);
        return answer;
    }

    int age(int plate, int hour, int mark, boolean must) {
        if (!isPlate(plate) || !isHour(hour)) return no(-1);
        if (mark < 0) return no(-4);
        if (mark > 600) return no(-6);
        for (int y = 0; y <= 9; y++) {
            Other o = new Other(hour).worst(!must);
            o.yearNow = y;
            if (o.rest()[plate] > mark) return y;
        }
        return -9;
    }

    int bolt(int joint, int plate, int hour, int what) {
        if (joint < 0 || joint >= joints.size() || !isPlate(plate) || !isHour(hour)) return 1000000000 - no(-1);
        if (what < 0 || what > 1) return 1000000000 - no(-2);
        Other o = new Other(hour);
        if (what == 0 && o.leads[joint] < 99) o.leads[joint]++;
        if (what == 1) o.leads[joint] = 0;
        return o.rest()[plate] - new Other(hour).rest()[plate];
    }

    int matters(int plate, int hour) {
        if (!isPlate(plate) || !isHour(hour)) return no(-1);
        int best = -9;
        int amount = -1;
        for (int j = 0; j < joints.size(); j++) {
            Other o = new Other(hour);
            o.leads[j] = 0;
            int change = Math.abs(o.rest()[plate] - new Other(hour).rest()[plate]);
            if (change > amount) {
                amount = change;
                best = j;
            }
        }
        return best;
    }

    int test(int on, int watts, int of, int warmth, int doubt) {
        if (!isPlate(on) || !isPlate(of)) return no(-1);
        if (watts < 0 || warmth < 0 || doubt < 0) return no(-4);
        if (watts > 999 || warmth > 600 || doubt > 99 || tests.size() == 10) return no(-6);
        tests.add(new int[] {on, watts, of, warmth, doubt});
        return tests.size();
    }

    private Other can(int[] t, int joint, int leads) {
        Other o = new Other(0);
        o.sunNow = 0;
        o.works = new boolean[8];
        o.on = new boolean[8];
        o.open = true;
        o.extraOn = t[0];
        o.extra = t[1];
        o.leads[joint] = leads;
        return o;
    }

    /** For the tests: what a plate would show in a can, or -1. */
    int canned(int on, int watts, int of, int joint, int leads) {
        if (!isPlate(on) || !isPlate(of) || joint < 0 || joint >= joints.size()) return -1;
        return can(new int[] {on, watts}, joint, leads).rest()[of];
    }

    /** For the tests: a plate's warmth, or -1; nothing is counted. */
    int warmthOrNone(int plate) {
        return isPlate(plate) ? plates.get(plate).warmth() : -1;
    }

    int fits(int joint, int what) {
        if (joint < 0 || joint >= joints.size()) return no(-1);
        if (what < 0 || what > 2) return no(-2);
        List<Integer> all = new ArrayList<>();
        for (int leads = 1; leads <= 40; leads++) {
            boolean fit = true;
            for (int[] t : tests) {
                int w = can(t, joint, leads).rest()[t[2]];
                fit &= w >= t[3] - t[4] && w <= t[3] + t[4];
            }
            if (fit) all.add(leads);
        }
        if (what == 0) return all.size();
        return all.isEmpty() ? -9 : all.get(what == 1 ? 0 : all.size() - 1);
    }

    private int bestHot;
    private int[] bestWhere;

    int place(int hour, int set, int on, int what) {
        if (!isHour(hour) || set < 0 || set >= 1 << boxes.size() || on < 0 || on >= 1 << plates.size()) return no(-1);
        if (what < 0 || what > 3) return no(-2);
        List<Integer> moved = new ArrayList<>();
        for (int b = 0; b < 8; b++) {
            if ((set >> b & 1) == 1) moved.add(b);
        }
        if (moved.size() > 3) return no(-6);
        bestHot = 9999;
        bestWhere = null;
        tryPlaces(new Other(hour), moved, 0, on);
        if (bestWhere == null || what > moved.size()) return -9;
        return what == 0 ? bestHot : bestWhere[moved.get(what - 1)];
    }

    private void tryPlaces(Other o, List<Integer> moved, int i, int on) {
        if (i == moved.size()) {
            int hot = 0;
            for (int w : o.rest()) {
                hot = Math.max(hot, w);
            }
            if (hot < bestHot) {
                bestHot = hot;
                bestWhere = o.where.clone();
            }
            return;
        }
        for (int p = 0; p < plates.size(); p++) {
            if ((on >> p & 1) == 0) continue;
            o.where[moved.get(i)] = p;
            tryPlaces(o, moved, i + 1, on & ~(1 << p));
        }
    }

    int marks(int plate, int least, int most) {
        if (!isPlate(plate)) return no(-1);
        if (least < 0 || most < 0 || most < least) return no(-4);
        if (least > 600 || most > 600) return no(-6);
        plates.get(plate).least = least;
        plates.get(plate).most = most;
        return 1;
    }

    int fails(int heater, boolean on, int hour) {
        if (heater < 0 || heater >= heaters.size() || !isHour(hour)) return no(-1);
        Other o = new Other(hour);
        o.on[heater] = on;
        int[] w = o.rest();
        for (int p = 0; p < plates.size(); p++) {
            if (w[p] < plates.get(p).least || w[p] > plates.get(p).most) return p;
        }
        return -9;
    }

    int freeze(int v) {
        if (v < 0) return no(-4);
        if (v > 600) return no(-6);
        int was = freeze;
        freeze = v;
        return was;
    }

    private List<Integer> thawing(int hour) {
        List<Integer> order = new ArrayList<>();
        Other o = new Other(hour);
        boolean more = true;
        while (more) {
            more = false;
            int[] w = o.rest();
            for (int k = 0; k < pipes.size() && !more; k++) {
                if (o.ice[k] && w[pipes.get(k).a] >= freeze && w[pipes.get(k).b] >= freeze) {
                    o.ice[k] = false;
                    order.add(k);
                    more = true;
                }
            }
        }
        return order;
    }

    int thaws(int hour, int i) {
        if (!isHour(hour)) return no(-1);
        if (i < 0) return no(-4);
        List<Integer> order = thawing(hour);
        return i < order.size() ? order.get(i) : -9;
    }

    int thaw(int hour) {
        if (!isHour(hour)) return no(-1);
        List<Integer> order = thawing(hour);
        for (int k : order) {
            pipes.get(k).frozen = false;
        }
        before.clear();
        behind.clear();
        return order.size();
    }

    int work(int box) {
        if (box < 0 || box >= boxes.size()) return no(-1);
        int[] heats = heats();
        int[] states = states();
        Plate p = plates.get(boxes.get(box).plate);
        int best = -9;
        for (int set = 0; set < 4096; set++) {
            if (best >= 0 && Integer.bitCount(set) <= Integer.bitCount(best)) continue;
            boolean cool = true;
            for (int h = 0; h < 12 && cool; h++) {
                boxes.get(box).works = (set >> h & 1) == 1;
                tick(h, new long[3]);
                cool = p.warmth() <= p.most;
            }
            back(heats, states);
            if (cool) best = set;
        }
        return best;
    }

    private static final int[][] ORDERS = {{0, 1, 2}, {0, 2, 1}, {1, 0, 2}, {1, 2, 0}, {2, 0, 1}, {2, 1, 0}};

    private int with(int plate, int hour, boolean[] in) {
        Other o = new Other(hour);
        if (!in[0]) o.sunNow = 0;
        if (!in[1]) o.works = new boolean[8];
        if (!in[2]) o.on = new boolean[8];
        return o.rest()[plate];
    }

    int share(int plate, int hour, int cause, boolean all) {
        if (!isPlate(plate) || !isHour(hour)) return 1000000000 - no(-1);
        if (cause < 0 || cause > 2) return 1000000000 - no(-2);
        int sum = 0;
        for (int[] order : ORDERS) {
            boolean[] in = new boolean[3];
            for (int c : order) {
                int was = with(plate, hour, in);
                in[c] = true;
                if (c == cause) sum += with(plate, hour, in) - was;
            }
            if (!all) break;
        }
        return sum;
    }

    /** All that acts change, as one row; an act is kept as the whole row that was before it. */
    private int[] states() {
        int[] row = new int[8 + 4 + 8 + 8 + 8 + 8];
        for (int k = 0; k < boxes.size(); k++) {
            row[k] = boxes.get(k).works ? 1 : 0;
        }
        for (int k = 0; k < heaters.size(); k++) {
            row[8 + k] = heaters.get(k).state;
        }
        for (int k = 0; k < pipes.size(); k++) {
            row[12 + k] = pipes.get(k).frozen ? 1 : 0;
        }
        for (int p = 0; p < plates.size(); p++) {
            row[20 + p] = plates.get(p).face;
            row[28 + p] = plates.get(p).flap;
            row[36 + p] = plates.get(p).stuckAt;
        }
        return row;
    }

    private void setStates(int[] row) {
        for (int k = 0; k < boxes.size(); k++) {
            boxes.get(k).works = row[k] == 1;
        }
        for (int k = 0; k < heaters.size(); k++) {
            heaters.get(k).state = row[8 + k];
        }
        for (int k = 0; k < pipes.size(); k++) {
            pipes.get(k).frozen = row[12 + k] == 1;
        }
        for (int p = 0; p < plates.size(); p++) {
            plates.get(p).face = row[20 + p];
            plates.get(p).flap = row[28 + p];
            plates.get(p).stuckAt = row[36 + p];
        }
    }

    private void act(int[] old) {
        int[] now = states();
        if (Arrays.equals(old, now)) return;
        before.add(difference(old, now));
        if (before.size() > 60) before.remove(0);
        behind.clear();
    }

    /** Place, value before, value behind, of all that differs: parts may come later that a whole row would not know. */
    private static int[] difference(int[] old, int[] now) {
        List<Integer> all = new ArrayList<>();
        for (int i = 0; i < old.length; i++) {
            if (old[i] == now[i]) continue;
            all.add(i);
            all.add(old[i]);
            all.add(now[i]);
        }
        int[] row = new int[all.size()];
        for (int i = 0; i < row.length; i++) {
            row[i] = all.get(i);
        }
        return row;
    }

    private int move(List<int[]> from, List<int[]> to, int value) {
        if (from.isEmpty()) return no(-3);
        int[] one = from.remove(from.size() - 1);
        int[] row = states();
        for (int i = 0; i < one.length; i += 3) {
            row[one[i]] = one[i + value];
        }
        setStates(row);
        to.add(one);
        return 1;
    }

    int undo() {
        return move(before, behind, 1);
    }

    int redo() {
        return move(behind, before, 2);
    }

    int count(int what) {
        if (what == 0) return ticks;
        if (what == 1) return plates.size();
        if (what == 2) return joints.size();
        if (what == 3) return pipes.size();
        if (what == 4) return boxes.size();
        if (what == 5) return heaters.size();
        if (what == 6) return tests.size();
        if (what == 7) return text.length();
        if (what == 8) return before.size();
        if (what >= 11 && what <= 16) return refused[what - 10];
        return -9;
    }
}
