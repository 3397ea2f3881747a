import java.util.Arrays;

/** Plates above the air that hold heat, take sun and send: the answers of the document, call by call. */
public final class WarmSide {
    private static final int NOBODY = -1;
    private static final int OTHER = -2;
    private static final int STATE = -3;
    private static final int BELOW = -4;
    private static final int ROOM = -6;
    private static final int NONE = -9;
    private static final int FAULTY = -20;
    private static final int STARRED = 1000000000;

    private static final int PLATES = 8;
    private static final int JOINTS = 20;
    private static final int PIPES = 8;
    private static final int BOXES = 8;
    private static final int HEATERS = 4;
    private static final int TRIALS = 10;
    private static final int COATS = 4;
    private static final int YEARS = 10;
    private static final int HOURS = 12;
    private static final int POINTS = 7;
    private static final int HOTTEST = 600;
    private static final int MOST_LEADS = 99;
    private static final int MOST_WATTS = 999;
    private static final int MOST_TICKS = 9999;
    private static final int MOST_ROUNDS = 60;
    private static final int MOST_FITTED = 40;

    private static final int SHUT = 0;
    private static final int PART = 1;
    private static final int OPEN = 2;
    private static final int STUCK = 3;
    private static final int STUCK_ON = 3;

    private final Craft craft = new Craft();
    private final Rules rules = new Rules(craft);
    private final Scene scene = new Scene(craft);
    private final Run run = new Run(craft, rules);
    private final Acts acts = new Acts(craft);
    private final Trials trials = new Trials();
    private final long[] sums = new long[3];
    private final int[] refused = new int[7];
    private int passed;

    public WarmSide() {
        passed = 0;
    }

    public int plate(int mass, int area, int coat) {
        if (outside(coat, COATS)) return refuse(NOBODY);
        if (mass < 1 || area < 1) return refuse(BELOW);
        if (mass > 99 || area > 20 || craft.plates.count >= PLATES) return refuse(ROOM);
        return craft.plates.add(mass, area, coat);
    }

    public int heat(int plate, int v) {
        if (noPlate(plate)) return refuse(NOBODY);
        if (v < 0) return refuse(BELOW);
        if (v > 59999) return refuse(ROOM);
        return swap(craft.plates.heat, plate, v);
    }

    public int point(int k, int v) {
        if (outside(k, POINTS)) return refuse(NOBODY);
        if (v < 0) return refuse(BELOW);
        if (v > 9999) return refuse(ROOM);
        if (!craft.sky.rises(k, v)) return refuse(STATE);
        return swap(craft.sky.points, k, v);
    }

    public int coat(int coat, int year, boolean sends, int v) {
        if (outside(coat, COATS) || outside(year, YEARS)) return refuse(NOBODY);
        if (v < 0) return refuse(BELOW);
        if (v > 100) return refuse(ROOM);
        return swap(sends ? craft.sky.sends : craft.sky.takes, coat * YEARS + year, v);
    }

    public int sun(int hour, int v) {
        if (outside(hour, HOURS)) return refuse(NOBODY);
        if (v < 0) return refuse(BELOW);
        if (v > 999) return refuse(ROOM);
        return swap(craft.sky.sun, hour, v);
    }

    public int face(int plate, int v) {
        if (noPlate(plate)) return refuse(NOBODY);
        if (outside(v, 3)) return refuse(OTHER);
        int was = craft.plates.face[plate];
        acts.tell(Acts.FACE, plate, v);
        return was;
    }

    public int joint(int a, int b, int leads) {
        return link(craft.joints, a, b, leads);
    }

    public int pipe(int a, int b, int leads) {
        return link(craft.pipes, a, b, leads);
    }

    public int frozen(int pipe, boolean on) {
        if (outside(pipe, craft.pipes.count)) return refuse(NOBODY);
        return acts.tell(Acts.PIPE, pipe, on ? 1 : 0) ? 1 : 0;
    }

    public int box(int plate, int watts) {
        return maker(craft.boxes, plate, watts, 0);
    }

    public int works(int box, boolean on) {
        if (outside(box, craft.boxes.count)) return refuse(NOBODY);
        return acts.tell(Acts.BOX, box, on ? 1 : 0) ? 1 : 0;
    }

    public int heater(int plate, int watts) {
        return maker(craft.heaters, plate, watts, 1);
    }

    public int flap(int plate) {
        if (noPlate(plate)) return refuse(NOBODY);
        if (craft.plates.flap[plate] != NONE) return refuse(STATE);
        craft.plates.flap[plate] = OPEN;
        return 1;
    }

    public int state(int k, boolean flap, int v) {
        if (outside(k, flap ? craft.plates.count : craft.heaters.count)) return refuse(NOBODY);
        if (flap && craft.plates.flap[k] == NONE) return refuse(STATE);
        if (outside(v, 4)) return refuse(OTHER);
        int was = flap ? craft.plates.flap[k] : craft.heaters.state[k];
        if (flap) {
            acts.tell(Acts.FLAP, k, craft.plates.flapCode(k, v));
        } else {
            acts.tell(Acts.HEATER, k, v);
        }
        return was;
    }

    public int feed(int n, long bytes) {
        if (n < 1) return refuse(BELOW);
        if (n > 8 || rules.length + n > Rules.ROW) return refuse(ROOM);
        return rules.append(n, bytes);
    }

    public int text() {
        int fault = rules.accept();
        return fault < 0 ? 1 : FAULTY - fault;
    }

    public int year(int v) {
        if (outside(v, YEARS)) return refuse(NOBODY);
        int was = craft.sky.year;
        craft.sky.year = v;
        return was;
    }

    public int ticks(int n) {
        if (n < 1) return refuse(BELOW);
        if (n > 200 || passed + n > MOST_TICKS) return refuse(ROOM);
        for (int i = 0; i < n; i++) {
            run.pass(passed % HOURS);
            sums[0] += run.taken;
            sums[1] += run.made;
            sums[2] += run.sent;
            passed++;
        }
        acts.forget();
        return passed;
    }

    public int of(int plate, int what) {
        if (noPlate(plate)) return refuse(NOBODY);
        switch (what) {
            case 0: return craft.plates.warmth(plate);
            case 1: return craft.plates.heat[plate];
            case 2: return craft.plates.flap[plate];
            case 3: return craft.plates.least[plate];
            case 4: return craft.plates.most[plate];
            default: return refuse(OTHER);
        }
    }

    public long sum(int what) {
        if (outside(what, 3)) return refuse(OTHER);
        return sums[what];
    }

    public int rest(int plate, int hour) {
        if (noPlate(plate) || outside(hour, HOURS)) return refuse(NOBODY);
        scene.asNow(hour);
        return scene.warmthOf(plate);
    }

    public int rests(int hour, int i) {
        if (outside(hour, HOURS)) return refuse(NOBODY);
        if (i < -1) return refuse(BELOW);
        int free = freeHeaters();
        scene.asNow(hour);
        int others = scene.burning & ~free;
        int found = 0;
        for (int bits = 0; bits < 1 << HEATERS; bits++) {
            if ((bits & ~free) != 0) continue;
            scene.burning = others | bits;
            scene.settle();
            if (!toldAlike(free, bits, hour)) continue;
            if (found == i) return scene.burning;
            found++;
        }
        return i < 0 ? found : NONE;
    }

    public int span(int what, int v) {
        if (outside(what, 3)) return refuse(OTHER);
        if (v < 0) return refuse(BELOW);
        if (v > 50) return refuse(ROOM);
        return swap(craft.sky.spans, what, v);
    }

    public int worst(int plate, int hour, boolean hot) {
        if (noPlate(plate) || outside(hour, HOURS)) return refuse(NOBODY);
        scene.asNow(hour);
        scene.stretch(hot);
        return scene.warmthOf(plate);
    }

    public int repeat(int what) {
        if (outside(what, 2)) return refuse(OTHER);
        return run.repeated(passed % HOURS, what == 0);
    }

    public int age(int plate, int hour, int mark, boolean must) {
        if (noPlate(plate) || outside(hour, HOURS)) return refuse(NOBODY);
        if (mark < 0) return refuse(BELOW);
        if (mark > HOTTEST) return refuse(ROOM);
        scene.asNow(hour);
        scene.stretch(!must);
        for (int y = 0; y < YEARS; y++) {
            scene.year = y;
            if (scene.warmthOf(plate) > mark) return y;
        }
        return NONE;
    }

    public int bolt(int joint, int plate, int hour, int what) {
        if (outside(joint, craft.joints.count) || noPlate(plate) || outside(hour, HOURS)) return refuseStarred(NOBODY);
        if (outside(what, 2)) return refuseStarred(OTHER);
        scene.asNow(hour);
        int before = scene.warmthOf(plate);
        scene.leads[joint] = what == 0 ? Math.min(MOST_LEADS, scene.leads[joint] + 1) : 0;
        return scene.warmthOf(plate) - before;
    }

    public int matters(int plate, int hour) {
        if (noPlate(plate) || outside(hour, HOURS)) return refuse(NOBODY);
        scene.asNow(hour);
        int before = scene.warmthOf(plate);
        int best = NONE;
        int most = -1;
        for (int j = 0; j < craft.joints.count; j++) {
            scene.leads[j] = 0;
            int change = Math.abs(scene.warmthOf(plate) - before);
            scene.leads[j] = craft.joints.leads[j];
            if (change > most) {
                most = change;
                best = j;
            }
        }
        return best;
    }

    public int test(int on, int watts, int of, int warmth, int doubt) {
        if (noPlate(on) || noPlate(of)) return refuse(NOBODY);
        if (watts < 0 || warmth < 0 || doubt < 0) return refuse(BELOW);
        if (watts > MOST_WATTS || warmth > HOTTEST || doubt > 99 || trials.count >= TRIALS) return refuse(ROOM);
        return trials.add(on, watts, of, warmth, doubt);
    }

    public int fits(int joint, int what) {
        if (outside(joint, craft.joints.count)) return refuse(NOBODY);
        if (outside(what, 3)) return refuse(OTHER);
        scene.inCan();
        int found = 0;
        int least = NONE;
        int greatest = NONE;
        for (int leads = 1; leads <= MOST_FITTED; leads++) {
            scene.leads[joint] = leads;
            if (!allTrialsFit()) continue;
            found++;
            greatest = leads;
            if (least == NONE) least = leads;
        }
        return what == 0 ? found : what == 1 ? least : greatest;
    }

    public int place(int hour, int boxes, int plates, int what) {
        if (outside(hour, HOURS) || strangers(boxes, craft.boxes.count)
            || strangers(plates, craft.plates.count)) return refuse(NOBODY);
        if (outside(what, 4)) return refuse(OTHER);
        int moved = Integer.bitCount(boxes);
        if (moved > 3) return refuse(ROOM);
        if (what > moved) return NONE;
        scene.asNow(hour);
        int best = NONE;
        int bestRow = 0;
        for (int row = 0; row < 1 << 3 * moved; row++) {
            if (!scene.putBoxes(boxes, plates, row, moved)) continue;
            int hottest = scene.hottest();
            if (best == NONE || hottest < best) {
                best = hottest;
                bestRow = row;
            }
        }
        if (what == 0 || best == NONE) return best;
        return bestRow >> 3 * (moved - what) & 7;
    }

    public int marks(int plate, int least, int most) {
        if (noPlate(plate)) return refuse(NOBODY);
        if (least < 0 || most < least) return refuse(BELOW);
        if (most > HOTTEST) return refuse(ROOM);
        craft.plates.least[plate] = least;
        craft.plates.most[plate] = most;
        return 1;
    }

    public int fails(int heater, boolean on, int hour) {
        if (outside(heater, craft.heaters.count) || outside(hour, HOURS)) return refuse(NOBODY);
        scene.asNow(hour);
        int bit = 1 << heater;
        scene.burning = on ? scene.burning | bit : scene.burning & ~bit;
        scene.settle();
        for (int p = 0; p < craft.plates.count; p++) {
            int warmth = scene.solver.warm[p];
            if (warmth < craft.plates.least[p] || warmth > craft.plates.most[p]) return p;
        }
        return NONE;
    }

    public int freeze(int v) {
        if (v < 0) return refuse(BELOW);
        if (v > HOTTEST) return refuse(ROOM);
        int was = craft.sky.freeze;
        craft.sky.freeze = v;
        return was;
    }

    public int thaws(int hour, int i) {
        if (outside(hour, HOURS)) return refuse(NOBODY);
        if (i < 0) return refuse(BELOW);
        scene.asNow(hour);
        int pipe = NONE;
        for (int turn = 0; turn <= i && turn <= PIPES; turn++) {
            pipe = scene.thawOne();
            if (pipe == NONE) return NONE;
        }
        return pipe;
    }

    public int thaw(int hour) {
        if (outside(hour, HOURS)) return refuse(NOBODY);
        scene.asNow(hour);
        int thawed = 0;
        for (int turn = 0; turn < PIPES; turn++) {
            int pipe = scene.thawOne();
            if (pipe == NONE) break;
            craft.pipes.frozen[pipe] = 0;
            thawed++;
        }
        acts.forget();
        return thawed;
    }

    public int work(int box) {
        if (outside(box, craft.boxes.count)) return refuse(NOBODY);
        return run.bestHours(box);
    }

    public int share(int plate, int hour, int cause, boolean all) {
        if (noPlate(plate) || outside(hour, HOURS)) return refuseStarred(NOBODY);
        if (outside(cause, 3)) return refuseStarred(OTHER);
        if (!all) return added(plate, hour, cause, (1 << cause) - 1);
        int sum = 0;
        for (int before = 0; before < 8; before++) {
            if ((before >> cause & 1) != 0) continue;
            // Of the six orders two have none ahead of the cause, two have both others, one each has one of them.
            int orders = Integer.bitCount(before) == 1 ? 1 : 2;
            sum += orders * added(plate, hour, cause, before);
        }
        return sum;
    }

    public int undo() {
        return acts.back() ? 1 : refuse(STATE);
    }

    public int redo() {
        return acts.again() ? 1 : refuse(STATE);
    }

    public int count(int what) {
        switch (what) {
            case 0: return passed;
            case 1: return craft.plates.count;
            case 2: return craft.joints.count;
            case 3: return craft.pipes.count;
            case 4: return craft.boxes.count;
            case 5: return craft.heaters.count;
            case 6: return trials.count;
            case 7: return rules.length;
            case 8: return acts.done;
            default: return what >= 11 && what <= 16 ? refused[what - 10] : NONE;
        }
    }

    private int refuse(int number) {
        refused[-number]++;
        return number;
    }

    private int refuseStarred(int number) {
        return STARRED - refuse(number);
    }

    private static boolean outside(int k, int count) {
        return k < 0 || k >= count;
    }

    private boolean noPlate(int p) {
        return outside(p, craft.plates.count);
    }

    private static boolean strangers(int set, int count) {
        return set < 0 || set >> count != 0;
    }

    private static int swap(int[] row, int k, int v) {
        int was = row[k];
        row[k] = v;
        return was;
    }

    private int link(Links links, int a, int b, int leads) {
        if (noPlate(a) || noPlate(b) || a == b) return refuse(NOBODY);
        if (leads < 1) return refuse(BELOW);
        if (leads > MOST_LEADS || links.full()) return refuse(ROOM);
        return links.add(a, b, leads);
    }

    private int maker(Makers makers, int p, int watts, int least) {
        if (noPlate(p)) return refuse(NOBODY);
        if (watts < least) return refuse(BELOW);
        if (watts > MOST_WATTS || makers.full()) return refuse(ROOM);
        return makers.add(p, watts);
    }

    /** The heaters whose states a text may tell, as bits. */
    private int freeHeaters() {
        int bits = 0;
        for (int k = 0; k < craft.heaters.count; k++) {
            if (craft.heaters.state[k] <= 1 && rules.rules(k)) bits |= 1 << k;
        }
        return bits;
    }

    private boolean toldAlike(int free, int bits, int hour) {
        for (int k = 0; k < craft.heaters.count; k++) {
            if ((free >> k & 1) == 0) continue;
            int told = rules.told(k, scene.solver.warm, hour);
            if (told >= 0 && told != (bits >> k & 1)) return false;
        }
        return true;
    }

    private boolean allTrialsFit() {
        for (int t = 0; t < trials.count; t++) {
            scene.extraOn = trials.on[t];
            scene.extra = trials.watts[t];
            int off = scene.warmthOf(trials.of[t]) - trials.warmth[t];
            if (Math.abs(off) > trials.doubt[t]) return false;
        }
        return true;
    }

    /** What a cause adds to a plate's warmth at rest where the causes in a set were put in before it. */
    private int added(int p, int hour, int cause, int before) {
        scene.asNow(hour);
        scene.only(before);
        int without = scene.warmthOf(p);
        scene.asNow(hour);
        scene.only(before | 1 << cause);
        return scene.warmthOf(p) - without;
    }

    /** The plates. */
    private static final class Plates {
        int count;
        final int[] mass = new int[PLATES];
        final int[] area = new int[PLATES];
        final int[] coat = new int[PLATES];
        final int[] face = new int[PLATES];
        final int[] heat = new int[PLATES];
        final int[] flap = new int[PLATES];
        /** How far the flap is open, stuck or not; a plate without one sends as if it stood open. */
        final int[] held = new int[PLATES];
        final int[] least = new int[PLATES];
        final int[] most = new int[PLATES];

        int add(int newMass, int newArea, int newCoat) {
            int p = count;
            mass[p] = newMass;
            area[p] = newArea;
            coat[p] = newCoat;
            face[p] = 2;
            flap[p] = NONE;
            held[p] = OPEN;
            most[p] = HOTTEST;
            count++;
            return p;
        }

        int warmth(int p) {
            int m = mass[p];
            return m < 1 ? 0 : Math.min(HOTTEST, heat[p] / m);
        }

        /** A flap's state and how far it is open, in one number, once it is told a state. */
        int flapCode(int p, int told) {
            return told | (told == STUCK ? held[p] : told) << 2;
        }

        void setFlap(int p, int code) {
            flap[p] = code & 3;
            held[p] = code >> 2 & 3;
        }
    }

    /** Joints, or pipes. */
    private static final class Links {
        final int room;
        int count;
        final int[] a;
        final int[] b;
        final int[] leads;
        final int[] frozen;

        Links(int room) {
            this.room = room;
            a = new int[room];
            b = new int[room];
            leads = new int[room];
            frozen = new int[room];
        }

        boolean full() {
            return count >= room;
        }

        int add(int from, int to, int lead) {
            int j = count;
            a[j] = from;
            b[j] = to;
            leads[j] = lead;
            count++;
            return j;
        }
    }

    /** Boxes (state 1 works, 0 not), or heaters. */
    private static final class Makers {
        final int room;
        final int first;
        int count;
        final int[] plate;
        final int[] watts;
        final int[] state;

        Makers(int room, int first) {
            this.room = room;
            this.first = first;
            plate = new int[room];
            watts = new int[room];
            state = new int[room];
        }

        boolean full() {
            return count >= room;
        }

        int add(int p, int w) {
            int k = count;
            plate[k] = p;
            watts[k] = w;
            state[k] = first;
            count++;
            return k;
        }

        /** Those that make heat (a heater that is stuck on too), as bits. */
        int making() {
            int bits = 0;
            for (int k = 0; k < count; k++) {
                if (state[k] == 1 || state[k] == STUCK_ON) bits |= 1 << k;
            }
            return bits;
        }
    }

    /** What is told of all plates together: the table of sending, coats by years, sun by hours, spans. */
    private static final class Sky {
        final int[] points = new int[POINTS];
        final int[] takes = new int[COATS * YEARS];
        final int[] sends = new int[COATS * YEARS];
        final int[] sun = new int[HOURS];
        final int[] spans = new int[3];
        int year;
        int freeze = 200;

        Sky() {
            for (int k = 0; k < POINTS; k++) {
                points[k] = 100 * k * k;
            }
            Arrays.fill(takes, 50);
            Arrays.fill(sends, 50);
        }

        boolean rises(int k, int v) {
            if (k > 0 && v < points[k - 1]) return false;
            return k + 1 >= POINTS || v <= points[k + 1];
        }
    }

    /** All that is told of the plates and what stands on them. */
    private static final class Craft {
        final Plates plates = new Plates();
        final Links joints = new Links(JOINTS);
        final Links pipes = new Links(PIPES);
        final Makers boxes = new Makers(BOXES, 1);
        final Makers heaters = new Makers(HEATERS, 0);
        final Sky sky = new Sky();

        int takenBy(int p, int sun, int year) {
            int takes = sky.takes[plates.coat[p] * YEARS + year];
            return plates.area[p] * sun * takes * plates.face[p] / 200;
        }

        int sendsOf(int p, int year) {
            return sky.sends[plates.coat[p] * YEARS + year];
        }

        int sentBy(int p, int warmth, int door, int sends) {
            int k = warmth / 100;
            int sending = sky.points[k];
            if (k + 1 < POINTS) sending += (sky.points[k + 1] - sending) * (warmth - 100 * k) / 100;
            int let = door == SHUT ? sending / 5 : door == PART ? sending / 2 : sending;
            return plates.area[p] * let * sends / 100;
        }
    }

    /** The tests in a can. */
    private static final class Trials {
        int count;
        final int[] on = new int[TRIALS];
        final int[] watts = new int[TRIALS];
        final int[] of = new int[TRIALS];
        final int[] warmth = new int[TRIALS];
        final int[] doubt = new int[TRIALS];

        int add(int boxOn, int boxWatts, int ofPlate, int restedAt, int within) {
            int t = count;
            on[t] = boxOn;
            watts[t] = boxWatts;
            of[t] = ofPlate;
            warmth[t] = restedAt;
            doubt[t] = within;
            count++;
            return count;
        }
    }

    /** The text that comes, and the rules that came of texts: row 0 .. 3 of heaters, from 4 on of plates' flaps. */
    private static final class Rules {
        static final int ROW = 40;
        private static final int DEEPEST = 4;
        // A rule is kept as steps in the order in which they are worked out, so that no tick reads its text again.
        private static final int FACT = 1;
        private static final int NOT = 2;
        private static final int AND = 3;
        private static final int OR = 4;
        private static final int TELL = 5;
        private static final int KIND = 20;
        private static final int WHAT = 12;
        private static final int SIGN = 10;
        private static final int NUMBER = 1023;
        private static final int OF_SUN = 10;
        private static final int OF_HOUR = 11;
        private static final int END = -1;

        final Craft craft;
        int length;
        private int at;
        private int drafted;
        private final int[] bytes = new int[ROW];
        private final int[] draft = new int[ROW];
        private final int[] steps = new int[(HEATERS + PLATES) * ROW];
        private final int[] sizes = new int[HEATERS + PLATES];

        Rules(Craft craft) {
            this.craft = craft;
        }

        int append(int n, long more) {
            for (int i = 0; i < n && length < ROW; i++) {
                bytes[length] = (int) (more >> 8 * i & 255);
                length++;
            }
            return length;
        }

        /** The place of the text's fault, or -1; the text is gone in both cases. */
        int accept() {
            at = 0;
            drafted = 0;
            int row = subject();
            boolean right = row >= 0 && cases(row < HEATERS ? 1 : 2);
            length = 0;
            if (!right) return at;
            System.arraycopy(draft, 0, steps, row * ROW, drafted);
            sizes[row] = drafted;
            return -1;
        }

        boolean rules(int row) {
            return sizes[row] > 0;
        }

        /** The state that a row's first case that holds tells, or -1. */
        int told(int row, int[] warm, int hour) {
            int stack = 0;
            for (int i = row * ROW; i < row * ROW + sizes[row]; i++) {
                int step = steps[i];
                switch (step >> KIND) {
                    case FACT:
                        stack = stack << 1 | (holds(step, warm, hour) ? 1 : 0);
                        break;
                    case NOT:
                        stack ^= 1;
                        break;
                    case AND:
                        stack = (stack & 1) == 0 ? stack >> 1 & ~1 : stack >> 1;
                        break;
                    case OR:
                        stack = stack >> 1 | stack & 1;
                        break;
                    default:
                        if ((stack & 1) != 0) return step & NUMBER;
                        stack = 0;
                        break;
                }
            }
            return -1;
        }

        private boolean holds(int step, int[] warm, int hour) {
            int what = step >> WHAT & 15;
            int fact = 0;
            if (what == OF_SUN) {
                fact = craft.sky.sun[hour];
            } else if (what == OF_HOUR) {
                fact = hour;
            } else if (what < craft.plates.count) {
                fact = warm[what];
            }
            int sign = step >> SIGN & 3;
            return Integer.compare(fact, step & NUMBER) == sign - 1;
        }

        private int next() {
            return at < length ? bytes[at] : END;
        }

        private boolean take(int sign) {
            if (at >= length || bytes[at] != sign) return false;
            at++;
            return true;
        }

        private void write(int step) {
            if (drafted >= ROW) return;
            draft[drafted] = step;
            drafted++;
        }

        /** The digit that comes, if it is at most so much, or -1. */
        private int digit(int most) {
            int value = at < length ? bytes[at] - '0' : END;
            if (value < 0 || value > most) return -1;
            at++;
            return value;
        }

        private int subject() {
            boolean ofHeater = next() == 'H';
            if (!ofHeater && next() != 'F') return -1;
            at++;
            int k = next() - '0';
            if (ofHeater ? outside(k, craft.heaters.count) : !hasFlap(k)) return -1;
            at++;
            if (!take(':')) return -1;
            return ofHeater ? k : HEATERS + k;
        }

        private boolean hasFlap(int p) {
            return !outside(p, craft.plates.count) && craft.plates.flap[p] != NONE;
        }

        private boolean cases(int mostState) {
            for (int i = 0; i < ROW; i++) {
                if (!terms(0) || !take('?')) return false;
                int told = digit(mostState);
                if (told < 0) return false;
                write(TELL << KIND | told);
                if (at >= length) return true;
                if (!take(';')) return false;
            }
            return false;
        }

        private boolean terms(int depth) {
            if (!parts(depth)) return false;
            for (int i = 0; i < ROW && take('|'); i++) {
                if (!parts(depth)) return false;
                write(OR << KIND);
            }
            return true;
        }

        private boolean parts(int depth) {
            if (!part(depth)) return false;
            for (int i = 0; i < ROW && take('&'); i++) {
                if (!part(depth)) return false;
                write(AND << KIND);
            }
            return true;
        }

        private boolean part(int depth) {
            boolean not = next() == '!';
            if (!not && next() != '(') return fact();
            if (depth >= DEEPEST) return false;
            at++;
            if (!not) return terms(depth + 1) && take(')');
            if (!part(depth + 1)) return false;
            write(NOT << KIND);
            return true;
        }

        private boolean fact() {
            int what = take('s') ? OF_SUN : take('h') ? OF_HOUR : take('w') ? digit(9) : -1;
            if (what < 0) return false;
            int sign = next() - '<';
            if (outside(sign, 3)) return false;
            at++;
            int number = digit(9);
            if (number < 0) return false;
            for (int i = 0; i < 2; i++) {
                int more = digit(9);
                if (more < 0) break;
                number = 10 * number + more;
            }
            write(FACT << KIND | what << WHAT | sign << SIGN | number);
            return true;
        }
    }

    /** What was told that may be taken back, and what was taken back. */
    private static final class Acts {
        static final int BOX = 0;
        static final int HEATER = 1;
        static final int FLAP = 2;
        static final int PIPE = 3;
        static final int FACE = 4;
        private static final int KEPT = 60;

        final Craft craft;
        int done;
        private int kept;
        private final int[] what = new int[KEPT];
        private final int[] before = new int[KEPT];
        private final int[] after = new int[KEPT];

        Acts(Craft craft) {
            this.craft = craft;
        }

        void forget() {
            done = 0;
            kept = 0;
        }

        /** Whether that changed something. */
        boolean tell(int kind, int k, int v) {
            int was = get(kind, k);
            if (was == v) return false;
            if (done >= KEPT) dropOldest();
            what[done] = kind << 4 | k;
            before[done] = was;
            after[done] = v;
            done++;
            kept = done;
            put(kind, k, v);
            return true;
        }

        boolean back() {
            if (done <= 0) return false;
            done--;
            put(what[done] >> 4, what[done] & 15, before[done]);
            return true;
        }

        boolean again() {
            if (done >= kept) return false;
            put(what[done] >> 4, what[done] & 15, after[done]);
            done++;
            return true;
        }

        private void dropOldest() {
            System.arraycopy(what, 1, what, 0, KEPT - 1);
            System.arraycopy(before, 1, before, 0, KEPT - 1);
            System.arraycopy(after, 1, after, 0, KEPT - 1);
            done = KEPT - 1;
        }

        private int get(int kind, int k) {
            switch (kind) {
                case BOX: return craft.boxes.state[k];
                case HEATER: return craft.heaters.state[k];
                case FLAP: return craft.plates.flapCode(k, craft.plates.flap[k]);
                case PIPE: return craft.pipes.frozen[k];
                default: return craft.plates.face[k];
            }
        }

        private void put(int kind, int k, int v) {
            switch (kind) {
                case BOX:
                    craft.boxes.state[k] = v;
                    break;
                case HEATER:
                    craft.heaters.state[k] = v;
                    break;
                case FLAP:
                    craft.plates.setFlap(k, v);
                    break;
                case PIPE:
                    craft.pipes.frozen[k] = v;
                    break;
                default:
                    craft.plates.face[k] = v;
                    break;
            }
        }
    }

    /** What a rest is asked for: all as now, or with something else in its place; nothing told changes by it. */
    private static final class Scene {
        final Craft craft;
        final Solver solver;
        int sun;
        int year;
        int wattsBy;
        int sendsBy;
        int working;
        int burning;
        int frozen;
        boolean open;
        int extraOn;
        int extra;
        final int[] stands = new int[BOXES];
        final int[] leads = new int[JOINTS];

        Scene(Craft craft) {
            this.craft = craft;
            solver = new Solver(craft);
        }

        void asNow(int hour) {
            sun = craft.sky.sun[hour];
            year = craft.sky.year;
            wattsBy = 100;
            sendsBy = 100;
            working = craft.boxes.making();
            burning = craft.heaters.making();
            open = false;
            extraOn = 0;
            extra = 0;
            System.arraycopy(craft.boxes.plate, 0, stands, 0, BOXES);
            System.arraycopy(craft.joints.leads, 0, leads, 0, JOINTS);
            frozen = 0;
            for (int k = 0; k < craft.pipes.count; k++) {
                frozen |= craft.pipes.frozen[k] << k;
            }
        }

        void inCan() {
            asNow(0);
            only(0);
            open = true;
        }

        /** Of sun (1), boxes (2), heaters (4) only what is in a set. */
        void only(int causes) {
            if ((causes & 1) == 0) sun = 0;
            if ((causes & 2) == 0) working = 0;
            if ((causes & 4) == 0) burning = 0;
        }

        /** To the ends of the spans at which it is hottest, or coldest. */
        void stretch(boolean hot) {
            int way = hot ? 1 : -1;
            sun = sun * (100 + way * craft.sky.spans[0]) / 100;
            wattsBy = 100 + way * craft.sky.spans[1];
            sendsBy = 100 - way * craft.sky.spans[2];
        }

        /** Boxes of a set on the plates that a row's digits by 8 name; false if that is no place for them. */
        boolean putBoxes(int boxes, int plates, int row, int moved) {
            int used = 0;
            int put = 0;
            for (int b = 0; b < BOXES && put < moved; b++) {
                if ((boxes >> b & 1) == 0) continue;
                put++;
                int p = row >> 3 * (moved - put) & 7;
                if ((plates & ~used & 1 << p) == 0) return false;
                used |= 1 << p;
                stands[b] = p;
            }
            return true;
        }

        int warmthOf(int p) {
            settle();
            return solver.warm[p];
        }

        int hottest() {
            settle();
            int most = 0;
            for (int p = 0; p < craft.plates.count; p++) {
                most = Math.max(most, solver.warm[p]);
            }
            return most;
        }

        /** The least frozen pipe that may thaw, which leads from then on; or -9. */
        int thawOne() {
            if (frozen == 0) return NONE;
            settle();
            for (int k = 0; k < craft.pipes.count; k++) {
                if ((frozen >> k & 1) == 0) continue;
                int colder = Math.min(solver.warm[craft.pipes.a[k]], solver.warm[craft.pipes.b[k]]);
                if (colder < craft.sky.freeze) continue;
                frozen &= ~(1 << k);
                return k;
            }
            return NONE;
        }

        void settle() {
            solver.clear(craft.plates.count);
            for (int p = 0; p < craft.plates.count; p++) {
                solver.gain[p] = craft.takenBy(p, sun, year);
                solver.sends[p] = Math.min(100, craft.sendsOf(p, year) * sendsBy / 100);
                solver.door[p] = open ? OPEN : craft.plates.held[p];
            }
            solver.gain[extraOn] += extra;
            fillMakers();
            for (int j = 0; j < craft.joints.count; j++) {
                solver.addJoint(craft.joints.a[j], craft.joints.b[j], leads[j]);
            }
            for (int k = 0; k < craft.pipes.count; k++) {
                if ((frozen >> k & 1) != 0) continue;
                solver.addPipe(craft.pipes.a[k], craft.pipes.b[k], craft.pipes.leads[k]);
            }
            solver.solve();
        }

        private void fillMakers() {
            for (int b = 0; b < craft.boxes.count; b++) {
                if ((working >> b & 1) == 0) continue;
                solver.gain[stands[b]] += craft.boxes.watts[b] * wattsBy / 100;
            }
            for (int k = 0; k < craft.heaters.count; k++) {
                if ((burning >> k & 1) == 0) continue;
                solver.gain[craft.heaters.plate[k]] += craft.heaters.watts[k];
            }
        }
    }

    /** Finds a rest from above: a plate that loses is lowered to where it does not, till none loses. */
    private static final class Solver {
        /** Every turn but the last lowers a plate, and 8 plates have 4800 degrees in all. */
        private static final int MOST_TURNS = 10000;
        private static final int MOST_STEPS = 32;

        final Craft craft;
        int count;
        final int[] gain = new int[PLATES];
        final int[] sends = new int[PLATES];
        final int[] door = new int[PLATES];
        final int[] warm = new int[PLATES];
        private final int[] near = new int[PLATES];
        private final int[] joints = new int[PLATES * PLATES];
        private final int[] pipes = new int[PLATES * PLATES];

        Solver(Craft craft) {
            this.craft = craft;
        }

        void clear(int plates) {
            count = plates;
            Arrays.fill(near, 0);
            Arrays.fill(gain, 0);
            Arrays.fill(joints, 0);
            Arrays.fill(pipes, 0);
        }

        void addJoint(int a, int b, int leads) {
            if (leads == 0) return;
            joints[a * PLATES + b] += leads;
            joints[b * PLATES + a] += leads;
            near[a] |= 1 << b;
            near[b] |= 1 << a;
        }

        void addPipe(int a, int b, int leads) {
            pipes[a * PLATES + b] += leads;
            near[a] |= 1 << b;
            near[b] |= 1 << a;
        }

        void solve() {
            // The warmest plate of a rest is led nothing, so none rests above the warmest that would rest alone.
            int top = 0;
            for (int p = 0; p < count; p++) {
                top = Math.max(top, restAlone(p, top));
            }
            Arrays.fill(warm, top);
            int open = (1 << count) - 1;
            for (int turn = 0; turn < MOST_TURNS && open != 0; turn++) {
                for (int p = 0; p < count; p++) {
                    if ((open >> p & 1) == 0) continue;
                    open &= ~(1 << p);
                    if (lower(p)) open |= near[p];
                }
            }
        }

        /** The greatest warmth above a least one at which a plate alone does not lose, or that least one. */
        private int restAlone(int p, int least) {
            int low = least;
            int high = HOTTEST + 1;
            for (int i = 0; i < MOST_STEPS && high - low > 1; i++) {
                int middle = (low + high) / 2;
                if (craft.sentBy(p, middle, door[p], sends[p]) <= gain[p]) {
                    low = middle;
                } else {
                    high = middle;
                }
            }
            return low;
        }

        /** Lowers a plate that loses to the greatest warmth at which it does not, or to 0; false if it does not lose. */
        private boolean lower(int p) {
            int high = warm[p];
            if (high == 0 || net(p, high) >= 0) return false;
            // Most moves are small ones, so the search begins with small steps.
            int step = 1;
            int low = high - 1;
            for (int i = 0; i < MOST_STEPS && low > 0 && net(p, low) < 0; i++) {
                high = low;
                step *= 2;
                low = Math.max(0, low - step);
            }
            for (int i = 0; i < MOST_STEPS && high - low > 1; i++) {
                int middle = (low + high) / 2;
                if (net(p, middle) >= 0) {
                    low = middle;
                } else {
                    high = middle;
                }
            }
            warm[p] = low;
            return true;
        }

        /** What a plate gains at a warmth, the others as they are, less what it loses. */
        private int net(int p, int warmth) {
            int sum = gain[p] - craft.sentBy(p, warmth, door[p], sends[p]);
            for (int q = 0; q < count; q++) {
                if ((near[p] >> q & 1) == 0) continue;
                int above = warm[q] - warmth;
                int pipe = above > 0 ? pipes[q * PLATES + p] : pipes[p * PLATES + q];
                sum += (joints[p * PLATES + q] + pipe) * above;
            }
            return sum;
        }
    }

    /** Ticks, for good or on trial. */
    private static final class Run {
        private static final int ROW = PLATES + 1;
        private static final int ALL_HOURS = (1 << HOURS) - 1;

        final Craft craft;
        final Rules rules;
        /** Of the latest tick. */
        int taken;
        int made;
        int sent;
        private int best;
        private int bestCount;
        private final int[] warm = new int[PLATES];
        private final int[] change = new int[PLATES];
        private final int[] sends = new int[PLATES];
        /** Heats and states as they were, row by row. */
        private final int[] past = new int[(MOST_ROUNDS + 1) * ROW];

        Run(Craft craft, Rules rules) {
            this.craft = craft;
            this.rules = rules;
        }

        void pass(int hour) {
            for (int p = 0; p < craft.plates.count; p++) {
                warm[p] = craft.plates.warmth(p);
            }
            heed(hour);
            exchange(hour);
            lead(craft.joints, false);
            lead(craft.pipes, true);
            settleHeats();
        }

        private void heed(int hour) {
            for (int k = 0; k < craft.heaters.count; k++) {
                if (craft.heaters.state[k] > 1 || !rules.rules(k)) continue;
                int told = rules.told(k, warm, hour);
                if (told >= 0) craft.heaters.state[k] = told;
            }
            for (int p = 0; p < craft.plates.count; p++) {
                if (craft.plates.flap[p] == STUCK || !rules.rules(HEATERS + p)) continue;
                int told = rules.told(HEATERS + p, warm, hour);
                if (told >= 0) craft.plates.setFlap(p, craft.plates.flapCode(p, told));
            }
        }

        /** What comes to plates and goes from them but by joints and pipes. */
        private void exchange(int hour) {
            int year = craft.sky.year;
            taken = 0;
            made = 0;
            for (int p = 0; p < craft.plates.count; p++) {
                int takes = craft.takenBy(p, craft.sky.sun[hour], year);
                sends[p] = craft.sentBy(p, warm[p], craft.plates.held[p], craft.sendsOf(p, year));
                change[p] = takes - sends[p];
                taken += takes;
            }
            make(craft.boxes);
            make(craft.heaters);
        }

        private void make(Makers makers) {
            int making = makers.making();
            for (int k = 0; k < makers.count; k++) {
                if ((making >> k & 1) == 0) continue;
                change[makers.plate[k]] += makers.watts[k];
                made += makers.watts[k];
            }
        }

        private void lead(Links links, boolean oneWay) {
            for (int j = 0; j < links.count; j++) {
                int a = links.a[j];
                int b = links.b[j];
                int above = warm[a] - warm[b];
                if (oneWay && (above < 0 || links.frozen[j] != 0)) continue;
                change[a] -= links.leads[j] * above;
                change[b] += links.leads[j] * above;
            }
        }

        private void settleHeats() {
            sent = 0;
            for (int p = 0; p < craft.plates.count; p++) {
                int heat = craft.plates.heat[p] + change[p];
                // What a plate did not have it did not send.
                sent += heat < 0 ? Math.max(0, sends[p] + heat) : sends[p];
                craft.plates.heat[p] = Math.max(0, heat);
            }
        }

        /** Behind how many rounds all is as it was before, or behind how many it was so; -9 if it never is. */
        int repeated(int hour, boolean second) {
            keep(0);
            int answer = NONE;
            for (int round = 1; round <= MOST_ROUNDS && answer == NONE; round++) {
                for (int i = 0; i < HOURS; i++) {
                    pass((hour + i) % HOURS);
                }
                keep(round);
                int earlier = alike(round);
                if (earlier >= 0) answer = second ? round : earlier;
            }
            restore(0);
            return answer;
        }

        private int alike(int round) {
            for (int earlier = 0; earlier < round; earlier++) {
                if (sameRows(earlier * ROW, round * ROW)) return earlier;
            }
            return -1;
        }

        private boolean sameRows(int one, int other) {
            for (int i = 0; i < ROW; i++) {
                if (past[one + i] != past[other + i]) return false;
            }
            return true;
        }

        private void keep(int row) {
            int start = row * ROW;
            System.arraycopy(craft.plates.heat, 0, past, start, PLATES);
            int code = 0;
            for (int k = 0; k < HEATERS; k++) {
                code = code << 2 | craft.heaters.state[k];
            }
            for (int p = 0; p < PLATES; p++) {
                code = code << 2 | craft.plates.flap[p] & 3;
            }
            past[start + PLATES] = code;
        }

        private void restore(int row) {
            int start = row * ROW;
            System.arraycopy(past, start, craft.plates.heat, 0, PLATES);
            int code = past[start + PLATES];
            for (int p = PLATES - 1; p >= 0; p--) {
                if (craft.plates.flap[p] != NONE) {
                    craft.plates.setFlap(p, craft.plates.flapCode(p, code & 3));
                }
                code >>= 2;
            }
            for (int k = HEATERS - 1; k >= 0; k--) {
                craft.heaters.state[k] = code & 3;
                code >>= 2;
            }
        }

        /** The hours in which a box works most, as bits, or -9. */
        int bestHours(int box) {
            best = NONE;
            bestCount = -1;
            int now = craft.boxes.state[box];
            keep(0);
            choose(box, 0, 0);
            restore(0);
            craft.boxes.state[box] = now;
            return best;
        }

        /** Tries what a box may do from an hour on, behind what it did before. */
        private void choose(int box, int hour, int bits) {
            if (!mayBeBetter(hour, bits)) return;
            if (hour >= HOURS) {
                best = bits;
                bestCount = Integer.bitCount(bits);
                return;
            }
            int p = craft.boxes.plate[box];
            for (int on = 1; on >= 0; on--) {
                restore(hour);
                craft.boxes.state[box] = on;
                pass(hour);
                if (craft.plates.warmth(p) > craft.plates.most[p]) continue;
                keep(hour + 1);
                choose(box, hour + 1, bits | on << hour);
            }
        }

        /** Whether a set that begins with such bits can have more hours than the best one, or as many and be less. */
        private boolean mayBeBetter(int hour, int bits) {
            int fullest = bits | ALL_HOURS >> hour << hour;
            int hours = Integer.bitCount(fullest);
            return hours > bestCount || hours == bestCount && fullest < best;
        }
    }
}
