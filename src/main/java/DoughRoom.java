/**
 * A bakery's room and ovens: batches of doughs of kinds below one another, which rise by the
 * minute, fall, bake, burn, and are sold while they keep.
 *
 * <p>Each kind is a class below the class of the kind above it. What the document calls AS ABOVE
 * is a call of super, and what it calls ITS OWN is an ordinary call, which the batch's own kind
 * answers.
 */
public final class DoughRoom {
    public static final int NONE = -1, BAD = -2, NO = -3, FULL = -4;

    private static final int MOST_BATCHES = 40;
    private static final int MOST_MASS = 500;
    private static final int MOST_WARMTH = 60;
    private static final int MOST_HEAT = 400;
    private static final int MOST_MINUTES = 200;
    private static final int MOST_DAYS = 10000;
    private static final int MOST_BROWNED = 100;
    private static final int OVENS = 3;
    private static final int OVEN_HOLDS = 800;

    private static final int FIRST_WARMTH = 20;
    private static final int DONE_FROM = 40;
    private static final int LEAST_TAKINGS = 1;
    private static final int KEEPS_OF_OTHERS = 1;

    private static final int DOUGH = 0, YEAST = 1, SOUR = 2, RYE = 3, BLACK = 4, SWEET = 5, BUTTER = 6;

    /** What ask() can be asked for. */
    private static final int RISE = 0, NEED = 1, BROWN = 2, PRICE = 3, KEEPS = 4, GLAZE = 5;

    /** How a batch is; told() answers these, and count() one more than these asks for them. */
    private static final int RISES = 0, IN_OVEN = 1, DONE = 2, SOLD = 3, LOST = 4;

    private final Dough[] batches;
    private final int[] heats;
    private final Trace trace;
    private int made;
    private int warmth;
    private int days;
    private int till;

    public DoughRoom() {
        batches = new Dough[MOST_BATCHES];
        heats = new int[OVENS];
        trace = new Trace();
        warmth = FIRST_WARMTH;
    }

    public int batch(int kind, int mass) {
        if (!within(kind, DOUGH, BUTTER) || !within(mass, 1, MOST_MASS)) {
            return BAD;
        }
        if (made < 0 || made >= batches.length) {
            return FULL;
        }
        batches[made] = knead(kind, mass);
        made++;
        return made - 1;
    }

    public int ask(int batch, int what, int w) {
        Dough dough = find(batch);
        if (dough == null || !isQuestion(what, w)) {
            return BAD;
        }
        int answer = NO;
        trace.start();
        // The answers are called from right here, not by a helper: a black dough's KEEPS goes
        // through so many bodies that one call more would pass LANGUAGE.md's eight.
        switch (what) {
            case RISE:
                answer = dough.rise(w);
                break;
            case NEED:
                answer = dough.need();
                break;
            case BROWN:
                answer = dough.brown(w);
                break;
            case PRICE:
                answer = dough.price();
                break;
            case KEEPS:
                if (dough instanceof Sour keeping) {
                    answer = keeping.keeps();
                }
                break;
            default:
                if (dough instanceof Sweet glazed) {
                    answer = glazed.glaze();
                }
                break;
        }
        trace.stop();
        return answer;
    }

    public int trace(int i) {
        return trace.at(i);
    }

    public int room(int w) {
        if (!within(w, 0, MOST_WARMTH)) {
            return BAD;
        }
        int before = warmth;
        warmth = w;
        return before;
    }

    public int heat(int oven, int h) {
        if (!isOven(oven) || !within(h, 0, MOST_HEAT)) {
            return BAD;
        }
        int before = heats[oven];
        heats[oven] = h;
        return before;
    }

    public int minutes(int n) {
        if (!within(n, 1, MOST_MINUTES)) {
            return BAD;
        }
        int lostBefore = howMany(LOST);
        for (Dough dough : batches) {
            if (dough == null) {
                break;
            }
            // Warmth and heats stand still meanwhile and no batch touches another, so each can
            // go through all its minutes alone.
            if (dough.state == RISES) {
                dough.riseFor(n, warmth);
            } else if (dough.state == IN_OVEN) {
                dough.brownFor(n, heatOf(dough.oven));
            }
        }
        return howMany(LOST) - lostBefore;
    }

    public int bake(int batch, int oven) {
        Dough dough = find(batch);
        if (dough == null || !isOven(oven)) {
            return BAD;
        }
        if (dough.state != RISES || dough.risen < dough.need()) {
            return NO;
        }
        int massThen = massIn(oven) + dough.mass;
        if (massThen > OVEN_HOLDS) {
            return FULL;
        }
        dough.state = IN_OVEN;
        dough.oven = oven;
        return massThen;
    }

    public int out(int batch) {
        Dough dough = find(batch);
        if (dough == null) {
            return BAD;
        }
        if (dough.state != IN_OVEN) {
            return NO;
        }
        if (dough.browned >= DONE_FROM) {
            dough.state = DONE;
            dough.doneSince = days;
        } else {
            dough.state = LOST;
        }
        return dough.browned;
    }

    public int sell(int batch) {
        Dough dough = find(batch);
        if (dough == null) {
            return BAD;
        }
        if (dough.state != DONE) {
            return NO;
        }
        int worth = dough.price();
        if (dough instanceof Sweet glazed) {
            worth += glazed.glaze();
        }
        int takings = Math.max(LEAST_TAKINGS, worth - (days - dough.doneSince));
        dough.state = SOLD;
        till += takings;
        return takings;
    }

    public int day() {
        if (days >= MOST_DAYS) {
            return FULL;
        }
        int lost = 0;
        for (Dough dough : batches) {
            if (dough == null) {
                break;
            }
            if (dough.state == DONE) {
                int keeps = dough instanceof Sour keeping ? keeping.keeps() : KEEPS_OF_OTHERS;
                if (days - dough.doneSince >= keeps) {
                    dough.state = LOST;
                    lost++;
                }
            }
        }
        days++;
        return lost;
    }

    public int told(int batch, int what) {
        Dough dough = find(batch);
        if (dough == null) {
            return BAD;
        }
        switch (what) {
            case 0:
                return dough.kind;
            case 1:
                return dough.state;
            case 2:
                return dough.risen;
            case 3:
                return dough.browned;
            case 4:
                return dough.state == IN_OVEN ? dough.oven : NONE;
            case 5:
                return dough.state == DONE ? dough.doneSince : NONE;
            case 6:
                return dough instanceof Sour ? 1 : 0;
            case 7:
                return dough instanceof Sweet ? 1 : 0;
            default:
                return BAD;
        }
    }

    public int count(int what) {
        switch (what) {
            case 0:
                return made;
            case 1:
            case 2:
            case 3:
            case 4:
            case 5:
                return howMany(what - 1);
            case 6:
                return days;
            case 7:
                return till;
            default:
                return BAD;
        }
    }

    private static boolean within(int number, int least, int most) {
        return number >= least && number <= most;
    }

    private static boolean isQuestion(int what, int w) {
        switch (what) {
            case RISE:
                return within(w, 0, MOST_WARMTH);
            case BROWN:
                return within(w, 0, MOST_HEAT);
            default:
                return within(what, RISE, GLAZE);
        }
    }

    private boolean isOven(int oven) {
        return oven >= 0 && oven < heats.length;
    }

    private int heatOf(int oven) {
        return isOven(oven) ? heats[oven] : 0;
    }

    /** The batch of that number, or null if there is no such one. */
    private Dough find(int batch) {
        return batch >= 0 && batch < batches.length ? batches[batch] : null;
    }

    private Dough knead(int kind, int mass) {
        switch (kind) {
            case YEAST:
                return new Yeast(kind, mass, trace);
            case SOUR:
                return new Sour(kind, mass, trace);
            case RYE:
                return new Rye(kind, mass, trace);
            case BLACK:
                return new Black(kind, mass, trace);
            case SWEET:
                return new Sweet(kind, mass, trace);
            case BUTTER:
                return new Butter(kind, mass, trace);
            default:
                return new Dough(kind, mass, trace);
        }
    }

    private int howMany(int state) {
        int found = 0;
        for (Dough dough : batches) {
            if (dough != null && dough.state == state) {
                found++;
            }
        }
        return found;
    }

    private int massIn(int oven) {
        int mass = 0;
        for (Dough dough : batches) {
            if (dough != null && dough.state == IN_OVEN && dough.oven == oven) {
                mass += dough.mass;
            }
        }
        return mass;
    }

    /** The numbers of the bodies that the latest ask() went through. */
    private static final class Trace {
        /** A black dough's KEEPS goes through ten bodies, and nothing goes through more. */
        private static final int LONGEST = 10;

        private final int[] numbers;
        private int length;
        /** Whether an ask() is under way: bodies that other calls go through leave nothing. */
        private boolean running;

        Trace() {
            numbers = new int[LONGEST];
        }

        void start() {
            length = 0;
            running = true;
        }

        void stop() {
            running = false;
        }

        void leave(int number) {
            if (running && length >= 0 && length < numbers.length) {
                numbers[length] = number;
                length++;
            }
        }

        int at(int i) {
            return i >= 0 && i < length && i < numbers.length ? numbers[i] : NONE;
        }
    }

    /** A batch: how it is by now, and what any dough answers unless its kind answers otherwise. */
    private static class Dough {
        final int kind;
        final int mass;
        final Trace trace;
        int state;
        int risen;
        int browned;
        /** Means something only while the batch is IN_OVEN. */
        int oven;
        /** Means something only while the batch is DONE. */
        int doneSince;

        Dough(int kind, int mass, Trace trace) {
            this.kind = kind;
            this.mass = mass;
            this.trace = trace;
            this.state = RISES;
        }

        int rise(int w) {
            trace.leave(1);
            return w / 4;
        }

        int need() {
            trace.leave(11);
            return 100 + mass / 10;
        }

        int brown(int h) {
            trace.leave(21);
            return h / 50;
        }

        int price() {
            trace.leave(31);
            return 10 + mass / 5;
        }

        final void riseFor(int n, int warmth) {
            int more = rise(warmth);
            int most = 2 * need();
            for (int minute = 0; minute < n && state == RISES; minute++) {
                risen += more;
                if (risen > most) {
                    state = LOST;
                }
            }
        }

        final void brownFor(int n, int heat) {
            int more = brown(heat);
            for (int minute = 0; minute < n && state == IN_OVEN; minute++) {
                browned += more;
                if (browned > MOST_BROWNED) {
                    state = LOST;
                }
            }
        }
    }

    private static class Yeast extends Dough {
        Yeast(int kind, int mass, Trace trace) {
            super(kind, mass, trace);
        }

        @Override
        int need() {
            trace.leave(12);
            return super.need() + 50;
        }
    }

    /** The KEEPING ones are these and those below them. */
    private static class Sour extends Yeast {
        Sour(int kind, int mass, Trace trace) {
            super(kind, mass, trace);
        }

        @Override
        int rise(int w) {
            trace.leave(2);
            return super.rise(w) / 2 + 1;
        }

        int keeps() {
            trace.leave(41);
            return 1 + need() / 100;
        }
    }

    private static class Rye extends Sour {
        Rye(int kind, int mass, Trace trace) {
            super(kind, mass, trace);
        }

        @Override
        int need() {
            trace.leave(13);
            int above = super.need();
            return above + rise(20);
        }

        @Override
        int price() {
            trace.leave(32);
            return super.price() + 40;
        }
    }

    private static final class Black extends Rye {
        Black(int kind, int mass, Trace trace) {
            super(kind, mass, trace);
        }

        @Override
        int rise(int w) {
            trace.leave(3);
            return super.rise(w) - 1;
        }

        @Override
        int brown(int h) {
            trace.leave(22);
            return (super.brown(h) + 2) / 3;
        }

        @Override
        int price() {
            trace.leave(33);
            int above = super.price();
            return above + need();
        }

        @Override
        int keeps() {
            trace.leave(42);
            return price() / 50 + 2;
        }
    }

    /** The GLAZED ones are these and those below them. */
    private static class Sweet extends Dough {
        Sweet(int kind, int mass, Trace trace) {
            super(kind, mass, trace);
        }

        @Override
        int brown(int h) {
            trace.leave(23);
            return super.brown(h) + 1;
        }

        int glaze() {
            trace.leave(51);
            return price() / 10 + 5;
        }
    }

    private static final class Butter extends Sweet {
        Butter(int kind, int mass, Trace trace) {
            super(kind, mass, trace);
        }

        @Override
        int rise(int w) {
            trace.leave(4);
            return super.rise(w) + w / 10;
        }

        @Override
        int price() {
            trace.leave(34);
            return 2 * super.price();
        }

        @Override
        int glaze() {
            trace.leave(52);
            return brown(200) + 20;
        }
    }
}
