import java.util.ArrayList;
import java.util.List;

/**
 * "Calls answer, the first of these that fits: BAD, NO, FULL; then nothing changes (but THE TRACE
 * where told)." Two rooms go the same way; one of them is then asked for what it must refuse, and
 * whatever can be seen of the two must stay alike, now and in what they do next.
 */
public final class RefusalsTest {
    private static final int NONE = -1, BAD = -2, NO = -3, FULL = -4;
    private static final int MIN = Integer.MIN_VALUE, MAX = Integer.MAX_VALUE;
    private static final int RISES = 0, IN_OVEN = 1, DONE = 2, SOLD = 3, LOST = 4;
    private static final int RISE = 0, NEED = 1, BROWN = 2, PRICE = 3, KEEPS = 4, GLAZE = 5;
    private static final int DOUGH = 0, RYE = 3, SOUR = 2, BLACK = 4, SWEET = 5, BUTTER = 6;

    private static final int[] NO_BATCH = {MIN, MIN + 11, -1, 11, 12, 39, 40, 41, MAX};
    private static final int[] NO_OVEN = {MIN, -1, 3, MAX};
    private static final int[] NO_MASS = {MIN, -1, 0, 501, MAX};
    private static final int[] NO_KIND = {MIN, -1, 7, MAX};
    private static final int[] NO_WARMTH = {MIN, -1, 61, MAX};
    private static final int[] NO_HEAT = {MIN, -1, 401, MAX};
    private static final int[] NO_MINUTES = {MIN, -1, 0, 201, MAX};

    private static final Due due = new Due();

    private interface Way {
        DoughRoom go();
    }

    private interface Call {
        int on(DoughRoom x);
    }

    public static void main(String[] args) {
        theMixedRoomIsMixed();
        batchBad();
        batchFull();
        batchBadAheadOfFull();
        askBad();
        askNoChangesTheTraceAlone();
        askBadAheadOfNo();
        roomBad();
        heatBad();
        minutesBad();
        bakeBad();
        bakeNo();
        bakeFull();
        bakeBadAheadOfNo();
        bakeNoAheadOfFull();
        outBadAndNo();
        sellBadAndNo();
        dayFull();
        toldAndCountBad();
        looksChangeNothing();
        anEmptyRoomStaysEmpty();
        due.end();
    }

    // Batches of mixed(), by what they are in it.
    private static final int FALLEN = 0, IN_FULL_OVEN = 1, ALSO_IN_FULL_OVEN = 2, READY = 3, SOUR_DONE = 4,
            SWEET_DONE = 5, BUTTER_SOLD = 6, UNRISEN = 7, DONE_LONG = 8, IN_OVEN_2 = 9, FRESH = 10;
    private static final int[] HOW = {LOST, IN_OVEN, IN_OVEN, RISES, DONE, DONE, SOLD, RISES, DONE, IN_OVEN, RISES};

    /** A room with something of everything in it, an OVEN that is just full, and a long TRACE. */
    private static DoughRoom mixed() {
        DoughRoom x = new DoughRoom();
        x.batch(DOUGH, 1);
        x.room(60);
        x.minutes(14);
        int[][] batches = {{DOUGH, 500}, {DOUGH, 300}, {DOUGH, 1}, {SOUR, 10}, {SWEET, 40}, {BUTTER, 50},
            {BLACK, 100}, {DOUGH, 20}, {DOUGH, 30}};
        for (int[] b : batches) {
            x.batch(b[0], b[1]);
        }
        x.room(40);
        x.minutes(15);
        int[][] ovens = {{IN_FULL_OVEN, 0}, {ALSO_IN_FULL_OVEN, 0}, {SWEET_DONE, 1}, {BUTTER_SOLD, 1},
            {DONE_LONG, 2}, {IN_OVEN_2, 2}};
        for (int[] o : ovens) {
            x.bake(o[0], o[1]);
        }
        x.room(0);
        x.minutes(61);
        x.bake(SOUR_DONE, 2);
        x.heat(2, 400);
        x.minutes(5);
        x.out(SOUR_DONE);
        x.out(DONE_LONG);
        x.day();
        x.out(SWEET_DONE);
        x.out(BUTTER_SOLD);
        x.sell(BUTTER_SOLD);
        x.batch(RYE, 7);
        x.room(33);
        x.heat(0, 77);
        x.heat(1, 123);
        x.ask(UNRISEN, KEEPS, 0);
        return x;
    }

    private static DoughRoom full() {
        DoughRoom x = new DoughRoom();
        for (int b = 0; b < 40; b++) {
            x.batch(b % 7, 1 + 12 * b);
        }
        x.minutes(21);
        x.ask(4, NEED, 0);
        return x;
    }

    private static void theMixedRoomIsMixed() {
        DoughRoom x = mixed();
        for (int b = 0; b < HOW.length; b++) {
            due.is("how batch " + b + " is", x.told(b, 1), HOW[b]);
        }
        due.is("no more batches", x.count(0), HOW.length);
        due.is("one day went", x.count(6), 1);
        due.is("the till", x.count(7), 65);
        due.is("the trace", x.trace(9), 1);
        due.is("the oven is full", x.bake(READY, 0), FULL);
        due.is("another is not", x.bake(READY, 2), 31);
    }

    /** All that can be seen of a room, and what it does next; fewer than 450 calls for 40 batches. */
    private static List<Integer> look(DoughRoom x) {
        List<Integer> seen = new ArrayList<>();
        for (int i = 0; i < 11; i++) {
            seen.add(x.trace(i));
        }
        for (int what = 0; what <= 7; what++) {
            seen.add(x.count(what));
        }
        int batches = x.count(0);
        for (int b = 0; b < batches; b++) {
            for (int what = 0; what <= 5; what++) {
                seen.add(x.told(b, what));
            }
            seen.add(x.ask(b, PRICE, 0));
        }
        seen.add(x.minutes(1));
        seen.add(x.room(7));
        for (int oven = 0; oven < 3; oven++) {
            seen.add(x.heat(oven, 8));
        }
        seen.add(x.day());
        for (int b = 0; b < batches; b++) {
            seen.add(x.bake(b, 2));
            seen.add(x.out(b));
            seen.add(x.sell(b));
        }
        seen.add(x.count(7));
        seen.add(x.batch(0, 1));
        return seen;
    }

    private static void alike(String when, DoughRoom x, DoughRoom y) {
        List<Integer> one = look(x), other = look(y);
        due.isTrue("nothing has changed behind " + when + ": " + one + " and " + other, one.equals(other));
    }

    private static void refused(String call, int want, Way way, Call refusedCall) {
        DoughRoom x = way.go(), y = way.go();
        due.is(call, refusedCall.on(x), want);
        due.is(call + " again", refusedCall.on(x), want);
        alike(call, x, y);
    }

    private static void refused(String call, int want, Call refusedCall) {
        refused(call, want, RefusalsTest::mixed, refusedCall);
    }

    private static void batchBad() {
        for (int kind : NO_KIND) {
            refused("batch(" + kind + ", 1)", BAD, x -> x.batch(kind, 1));
            for (int mass : NO_MASS) {
                refused("batch(" + kind + ", " + mass + ")", BAD, x -> x.batch(kind, mass));
            }
        }
        for (int kind = 0; kind < 7; kind++) {
            int k = kind;
            for (int mass : NO_MASS) {
                refused("batch(" + k + ", " + mass + ")", BAD, x -> x.batch(k, mass));
            }
        }
    }

    private static void batchFull() {
        for (int kind = 0; kind < 7; kind++) {
            int k = kind;
            refused("batch(" + k + ", 1) when full", FULL, RefusalsTest::full, x -> x.batch(k, 1));
            refused("batch(" + k + ", 500) when full", FULL, RefusalsTest::full, x -> x.batch(k, 500));
        }
    }

    private static void batchBadAheadOfFull() {
        for (int kind : NO_KIND) {
            refused("batch(" + kind + ", 1) when full", BAD, RefusalsTest::full, x -> x.batch(kind, 1));
        }
        for (int mass : NO_MASS) {
            refused("batch(0, " + mass + ") when full", BAD, RefusalsTest::full, x -> x.batch(0, mass));
        }
    }

    private static void askBad() {
        for (int batch : NO_BATCH) {
            for (int what = RISE; what <= GLAZE; what++) {
                int q = what;
                refused("ask(" + batch + ", " + q + ", 0)", BAD, x -> x.ask(batch, q, 0));
            }
        }
        for (int b = 0; b < HOW.length; b++) {
            int batch = b;
            for (int what : new int[] {MIN, -1, 6, MAX}) {
                refused("ask(" + b + ", " + what + ", 0)", BAD, x -> x.ask(batch, what, 0));
            }
            for (int w : NO_WARMTH) {
                refused("ask(" + b + ", RISE, " + w + ")", BAD, x -> x.ask(batch, RISE, w));
            }
            for (int w : NO_HEAT) {
                refused("ask(" + b + ", BROWN, " + w + ")", BAD, x -> x.ask(batch, BROWN, w));
            }
        }
    }

    /** "THE TRACE is empty ahead of it, if it is not BAD": of a NO, that is all that changes. */
    private static void askNoChangesTheTraceAlone() {
        for (int b = 0; b < HOW.length; b++) {
            for (int what = KEEPS; what <= GLAZE; what++) {
                DoughRoom x = mixed(), y = mixed();
                boolean has = x.told(b, what == KEEPS ? 6 : 7) == 1;
                int answer = x.ask(b, what, MIN);
                due.isTrue("ask(" + b + ", " + what + ") is NO or told", has ? answer > 0 : answer == NO);
                due.isTrue("its trace", has ? x.trace(0) != NONE : x.trace(0) == NONE);
                due.isTrue("its trace behind", has || x.trace(9) == NONE);
                x.ask(UNRISEN, NEED, 0);
                y.ask(UNRISEN, NEED, 0);
                alike("ask(" + b + ", " + what + ")", x, y);
            }
        }
    }

    private static void askBadAheadOfNo() {
        for (int batch : NO_BATCH) {
            refused("ask(" + batch + ", KEEPS, -1)", BAD, x -> x.ask(batch, KEEPS, -1));
            refused("ask(" + batch + ", GLAZE, -1)", BAD, x -> x.ask(batch, GLAZE, -1));
        }
    }

    private static void roomBad() {
        for (int w : NO_WARMTH) {
            refused("room(" + w + ")", BAD, x -> x.room(w));
        }
    }

    private static void heatBad() {
        for (int oven : NO_OVEN) {
            for (int h : new int[] {MIN, -1, 0, 400, 401, MAX}) {
                refused("heat(" + oven + ", " + h + ")", BAD, x -> x.heat(oven, h));
            }
        }
        for (int oven = 0; oven < 3; oven++) {
            int o = oven;
            for (int h : NO_HEAT) {
                refused("heat(" + o + ", " + h + ")", BAD, x -> x.heat(o, h));
            }
        }
    }

    private static void minutesBad() {
        for (int n : NO_MINUTES) {
            refused("minutes(" + n + ")", BAD, x -> x.minutes(n));
            refused("minutes(" + n + ") when full", BAD, RefusalsTest::full, x -> x.minutes(n));
        }
    }

    private static void bakeBad() {
        for (int batch : NO_BATCH) {
            for (int oven = -1; oven <= 3; oven++) {
                int o = oven;
                refused("bake(" + batch + ", " + o + ")", BAD, x -> x.bake(batch, o));
            }
        }
        for (int oven : NO_OVEN) {
            refused("bake of a ready one in oven " + oven, BAD, x -> x.bake(READY, oven));
        }
    }

    private static void bakeNo() {
        for (int b = 0; b < HOW.length; b++) {
            int batch = b;
            for (int oven = 0; oven < 3; oven++) {
                int o = oven;
                if (b != READY) {
                    refused("bake(" + b + ", " + o + ")", NO, x -> x.bake(batch, o));
                }
            }
        }
    }

    private static void bakeFull() {
        refused("bake in a full oven", FULL, x -> x.bake(READY, 0));
        Way heavy = () -> {
            DoughRoom x = new DoughRoom();
            x.batch(DOUGH, 500);
            x.batch(DOUGH, 301);
            x.minutes(30);
            x.bake(0, 1);
            return x;
        };
        refused("bake of 801", FULL, heavy, x -> x.bake(1, 1));
        DoughRoom y = heavy.go();
        y.bake(1, 1);
        due.is("it goes elsewhere", y.bake(1, 0), 301);
    }

    private static void bakeBadAheadOfNo() {
        for (int b = 0; b < HOW.length; b++) {
            int batch = b;
            for (int oven : NO_OVEN) {
                refused("bake(" + b + ", " + oven + ")", BAD, x -> x.bake(batch, oven));
            }
        }
    }

    private static void bakeNoAheadOfFull() {
        for (int batch : new int[] {UNRISEN, FRESH, FALLEN, SOUR_DONE, BUTTER_SOLD, IN_OVEN_2, IN_FULL_OVEN}) {
            refused("bake of " + batch + " in a full oven", NO, x -> x.bake(batch, 0));
        }
    }

    private static void outBadAndNo() {
        for (int batch : NO_BATCH) {
            refused("out(" + batch + ")", BAD, x -> x.out(batch));
        }
        for (int b = 0; b < HOW.length; b++) {
            int batch = b;
            if (HOW[b] != IN_OVEN) {
                refused("out(" + b + ")", NO, x -> x.out(batch));
            }
        }
    }

    private static void sellBadAndNo() {
        for (int batch : NO_BATCH) {
            refused("sell(" + batch + ")", BAD, x -> x.sell(batch));
        }
        for (int b = 0; b < HOW.length; b++) {
            int batch = b;
            if (HOW[b] != DONE) {
                refused("sell(" + b + ")", NO, x -> x.sell(batch));
            }
        }
    }

    /** Beyond the 512 calls that the document speaks of, and kept all the same. */
    private static void dayFull() {
        Way long10000 = () -> {
            DoughRoom x = new DoughRoom();
            x.batch(DOUGH, 1);
            x.batch(DOUGH, 1);
            x.minutes(20);
            x.bake(0, 0);
            x.heat(0, 400);
            x.minutes(5);
            for (int day = 0; day < 9999; day++) {
                x.day();
            }
            x.out(0);
            x.day();
            return x;
        };
        refused("day() after 10000", FULL, long10000, x -> x.day());
    }

    private static void toldAndCountBad() {
        for (int batch : NO_BATCH) {
            for (int what = -1; what <= 8; what++) {
                int q = what;
                refused("told(" + batch + ", " + q + ")", BAD, x -> x.told(batch, q));
            }
        }
        for (int what : new int[] {MIN, -1, 8, MAX}) {
            refused("count(" + what + ")", BAD, x -> x.count(what));
            for (int b = 0; b < HOW.length; b++) {
                int batch = b;
                refused("told(" + b + ", " + what + ")", BAD, x -> x.told(batch, what));
            }
        }
    }

    /** told(), count(), trace() only tell; ask() leaves nothing but THE TRACE. */
    private static void looksChangeNothing() {
        DoughRoom x = mixed(), y = mixed();
        for (int b = 0; b < HOW.length; b++) {
            for (int what = 0; what <= 7; what++) {
                x.told(b, what);
                x.count(what);
            }
        }
        for (int i = -1; i < 12; i++) {
            x.trace(i);
        }
        alike("told(), count(), trace()", x, y);

        DoughRoom asked = mixed(), other = mixed();
        for (int b = 0; b < HOW.length; b++) {
            for (int what = RISE; what <= GLAZE; what++) {
                asked.ask(b, what, 60);
            }
        }
        asked.ask(UNRISEN, KEEPS, 0);
        alike("ask()", asked, other);
    }

    private static void anEmptyRoomStaysEmpty() {
        Way empty = DoughRoom::new;
        for (int batch : new int[] {MIN, -1, 0, 39, 40, MAX}) {
            refused("empty: ask(" + batch + ", NEED, 0)", BAD, empty, x -> x.ask(batch, NEED, 0));
            refused("empty: ask(" + batch + ", KEEPS, 0)", BAD, empty, x -> x.ask(batch, KEEPS, 0));
            refused("empty: bake(" + batch + ", 0)", BAD, empty, x -> x.bake(batch, 0));
            refused("empty: out(" + batch + ")", BAD, empty, x -> x.out(batch));
            refused("empty: sell(" + batch + ")", BAD, empty, x -> x.sell(batch));
            refused("empty: told(" + batch + ", 0)", BAD, empty, x -> x.told(batch, 0));
            refused("empty: trace(" + batch + ")", NONE, empty, x -> x.trace(batch));
        }
        refused("empty: batch(7, 1)", BAD, empty, x -> x.batch(7, 1));
        refused("empty: batch(0, 501)", BAD, empty, x -> x.batch(0, 501));
    }
}
