/** For each promise of the document: ordinary inputs, the edges that it names, wrong inputs. */
public final class PromisesTest {
    private static final int NONE = -1, BAD = -2, NO = -3, FULL = -4;
    private static final int MIN = Integer.MIN_VALUE, MAX = Integer.MAX_VALUE;
    private static final int RISES = 0, IN_OVEN = 1, DONE = 2, SOLD = 3, LOST = 4;

    private static final Due due = new Due();

    public static void main(String[] args) {
        promise1();
        promise2();
        promise2NumbersAreNotUsedAgain();
        promise3Answers();
        promise3Edges();
        promise3Wrong();
        promise4Traces();
        promise4LatestAskAlone();
        promise5();
        promise6();
        promise7Rising();
        promise7RisingOfEachKind();
        promise7Baking();
        promise7OnlyWhatRisesOrBakes();
        promise7Wrong();
        promise8Need();
        promise8Mass();
        promise8Wrong();
        promise9();
        promise9Wrong();
        promise10();
        promise10Wrong();
        promise11();
        promise11EachBatchByItsOwnDay();
        promise11Full();
        promise12();
        promise12Wrong();
        promise13();
        due.end();
    }

    /** A room of warmth 20 with one batch of each mass, each of which has just RISEN by its NEED. */
    private static DoughRoom risen(int kind, int... masses) {
        DoughRoom x = new DoughRoom();
        for (int mass : masses) {
            x.batch(kind, mass);
        }
        for (int minute = 0; minute < 200 && !haveRisen(x, masses.length); minute++) {
            x.minutes(1);
        }
        return x;
    }

    private static boolean haveRisen(DoughRoom x, int batches) {
        for (int b = 0; b < batches; b++) {
            if (x.told(b, 2) < x.ask(b, 1, 0)) {
                return false;
            }
        }
        return true;
    }

    /** A room with a single batch of that kind and mass that came DONE, browned by 40 to 48. */
    private static DoughRoom done(int kind, int mass) {
        DoughRoom x = risen(kind, mass);
        x.bake(0, 1);
        x.heat(1, 200);
        while (x.told(0, 3) < 40) {
            x.minutes(1);
        }
        x.out(0);
        due.is("how a done one is, kind " + kind, x.told(0, 1), DONE);
        return x;
    }

    private static void promise1() {
        DoughRoom x = new DoughRoom();
        for (int what = 0; what <= 7; what++) {
            due.is("1: new, count(" + what + ")", x.count(what), 0);
        }
        due.is("1: new, told(0, 0)", x.told(0, 0), BAD);
        due.is("1: new, ask(0, 1, 0)", x.ask(0, 1, 0), BAD);
        due.is("1: new, trace(0)", x.trace(0), NONE);
        due.is("1: new, minutes(200)", x.minutes(200), 0);
        due.is("1: new, room(0)", x.room(0), 20);
        for (int oven = 0; oven < 3; oven++) {
            due.is("1: new, heat(" + oven + ", 0)", x.heat(oven, 0), 0);
        }
        due.is("1: new, day()", x.day(), 0);

        DoughRoom y = new DoughRoom();
        x.batch(0, 1);
        due.is("1: another object's count(0)", y.count(0), 0);
        due.is("1: another object's room(3)", y.room(3), 20);
        due.is("1: another object's count(6)", y.count(6), 0);
    }

    private static void promise2() {
        DoughRoom x = new DoughRoom();
        int[][] wrong = {{-1, 1}, {7, 1}, {0, 0}, {0, -1}, {0, 501}, {MIN, 1}, {MAX, 1}, {6, MIN}, {6, MAX}};
        for (int[] w : wrong) {
            due.is("2: batch(" + w[0] + ", " + w[1] + ")", x.batch(w[0], w[1]), BAD);
        }
        due.is("2: count(0) after wrong ones", x.count(0), 0);
        for (int i = 0; i < 40; i++) {
            due.is("2: batch " + i, x.batch(i % 7, i % 2 == 0 ? 1 : 500), i);
        }
        for (int i = 0; i < 40; i++) {
            due.is("2: told(" + i + ", 0)", x.told(i, 0), i % 7);
            due.is("2: told(" + i + ", 1)", x.told(i, 1), RISES);
            due.is("2: told(" + i + ", 2)", x.told(i, 2), 0);
            due.is("2: told(" + i + ", 3)", x.told(i, 3), 0);
        }
        due.is("2: need by mass 1", x.ask(0, 1, 0), 100);
        due.is("2: need by mass 500", x.ask(7, 1, 0), 150);
        due.is("2: the 41st", x.batch(0, 1), FULL);
        due.is("2: the 41st, wrong kind", x.batch(7, 1), BAD);
        due.is("2: the 41st, wrong mass", x.batch(0, 0), BAD);
        due.is("2: count(0) when full", x.count(0), 40);
    }

    private static void promise2NumbersAreNotUsedAgain() {
        DoughRoom x = new DoughRoom();
        for (int i = 0; i < 40; i++) {
            x.batch(0, 1);
        }
        due.is("2: all are lost", x.minutes(200), 40);
        due.is("2: lost ones are batches still", x.batch(0, 1), FULL);
    }

    private static final int[][] ANSWERS_OF_MASS_120 = {
        // RISE at 40, NEED, BROWN at 160, PRICE, KEEPS, GLAZE
        {10, 112, 3, 34, NO, NO},
        {10, 162, 3, 34, NO, NO},
        {6, 162, 3, 34, 2, NO},
        {6, 165, 3, 74, 2, NO},
        {5, 164, 1, 238, 6, NO},
        {10, 112, 4, 34, NO, 8},
        {14, 112, 4, 68, NO, 25},
    };

    private static final int[][] ANSWERS_OF_MASS_500 = {
        // RISE at 59, NEED, BROWN at 399, PRICE, KEEPS, GLAZE
        {14, 150, 7, 110, NO, NO},
        {14, 200, 7, 110, NO, NO},
        {8, 200, 7, 110, 3, NO},
        {8, 203, 7, 150, 3, NO},
        {7, 202, 3, 352, 9, NO},
        {14, 150, 8, 110, NO, 16},
        {19, 150, 8, 220, NO, 25},
    };

    private static void promise3Answers() {
        DoughRoom x = new DoughRoom();
        for (int kind = 0; kind < 7; kind++) {
            x.batch(kind, 120);
        }
        for (int kind = 0; kind < 7; kind++) {
            x.batch(kind, 500);
        }
        for (int kind = 0; kind < 7; kind++) {
            for (int what = 0; what < 6; what++) {
                due.is("3: mass 120, kind " + kind + ", what " + what,
                        x.ask(kind, what, what == 2 ? 160 : 40), ANSWERS_OF_MASS_120[kind][what]);
                due.is("3: mass 500, kind " + kind + ", what " + what,
                        x.ask(7 + kind, what, what == 2 ? 399 : 59), ANSWERS_OF_MASS_500[kind][what]);
            }
        }
        x.minutes(200);
        due.is("3: it is lost", x.told(0, 1), LOST);
        due.is("3: a lost one answers", x.ask(0, 1, 0), 112);
    }

    private static void promise3Edges() {
        DoughRoom x = new DoughRoom();
        int[] riseAt0 = {0, 0, 1, 1, 0, 0, 0};
        int[] riseAt60 = {15, 15, 8, 8, 7, 15, 21};
        int[] riseAt3 = {0, 0, 1, 1, 0, 0, 0};
        int[] riseAt10 = {2, 2, 2, 2, 1, 2, 3};
        int[] brownAt0 = {0, 0, 0, 0, 0, 1, 1};
        int[] brownAt400 = {8, 8, 8, 8, 3, 9, 9};
        int[] brownAt49 = {0, 0, 0, 0, 0, 1, 1};
        int[] brownAt50 = {1, 1, 1, 1, 1, 2, 2};
        for (int kind = 0; kind < 7; kind++) {
            x.batch(kind, 1);
            due.is("3: rise at 0 of " + kind, x.ask(kind, 0, 0), riseAt0[kind]);
            due.is("3: rise at 3 of " + kind, x.ask(kind, 0, 3), riseAt3[kind]);
            due.is("3: rise at 10 of " + kind, x.ask(kind, 0, 10), riseAt10[kind]);
            due.is("3: rise at 60 of " + kind, x.ask(kind, 0, 60), riseAt60[kind]);
            due.is("3: brown at 0 of " + kind, x.ask(kind, 2, 0), brownAt0[kind]);
            due.is("3: brown at 49 of " + kind, x.ask(kind, 2, 49), brownAt49[kind]);
            due.is("3: brown at 50 of " + kind, x.ask(kind, 2, 50), brownAt50[kind]);
            due.is("3: brown at 400 of " + kind, x.ask(kind, 2, 400), brownAt400[kind]);
        }
        x.batch(2, 499);
        x.batch(2, 9);
        due.is("3: keeps, need 199", x.ask(7, 4, 0), 2);
        due.is("3: need of mass 9", x.ask(8, 1, 0), 150);
        due.is("3: price of mass 9", x.ask(8, 3, 0), 11);
        for (int w : new int[] {MIN, -1, 61, 401, MAX}) {
            due.is("3: need at any w", x.ask(0, 1, w), 100);
            due.is("3: price at any w", x.ask(0, 3, w), 10);
            due.is("3: keeps at any w", x.ask(2, 4, w), 2);
            due.is("3: glaze at any w", x.ask(5, 5, w), 6);
            due.is("3: no keeps at any w", x.ask(5, 4, w), NO);
            due.is("3: no glaze at any w", x.ask(2, 5, w), NO);
        }
    }

    private static void promise3Wrong() {
        DoughRoom x = new DoughRoom();
        x.batch(0, 10);
        int[][] wrong = {
            {-1, 0, 0}, {1, 0, 0}, {40, 0, 0}, {MIN, 0, 0}, {MAX, 0, 0}, {1, 4, 0}, {1, 5, 0},
            {0, -1, 0}, {0, 6, 0}, {0, MIN, 0}, {0, MAX, 0},
            {0, 0, -1}, {0, 0, 61}, {0, 0, MIN}, {0, 0, MAX},
            {0, 2, -1}, {0, 2, 401}, {0, 2, MIN}, {0, 2, MAX},
        };
        for (int[] w : wrong) {
            due.is("3: ask(" + w[0] + ", " + w[1] + ", " + w[2] + ")", x.ask(w[0], w[1], w[2]), BAD);
        }
    }

    private static final int[][][] TRACES = {
        {{1}, {11}, {21}, {31}, {}, {}},
        {{1}, {12, 11}, {21}, {31}, {}, {}},
        {{2, 1}, {12, 11}, {21}, {31}, {41, 12, 11}, {}},
        {{2, 1}, {13, 12, 11, 2, 1}, {21}, {32, 31}, {41, 13, 12, 11, 2, 1}, {}},
        {{3, 2, 1}, {13, 12, 11, 3, 2, 1}, {22, 21}, {33, 32, 31, 13, 12, 11, 3, 2, 1},
            {42, 33, 32, 31, 13, 12, 11, 3, 2, 1}, {}},
        {{1}, {11}, {23, 21}, {31}, {}, {51, 31}},
        {{4, 1}, {11}, {23, 21}, {34, 31}, {}, {52, 23, 21}},
    };

    private static void promise4Traces() {
        for (int kind = 0; kind < 7; kind++) {
            DoughRoom x = new DoughRoom();
            x.batch(kind, 77);
            for (int what = 0; what < 6; what++) {
                x.ask(0, what, 30);
                traceIs("4: kind " + kind + ", what " + what, x, TRACES[kind][what]);
            }
        }
    }

    private static void traceIs(String when, DoughRoom x, int... want) {
        for (int i = 0; i < 13; i++) {
            due.is(when + ", trace(" + i + ")", x.trace(i), i < want.length ? want[i] : NONE);
        }
        for (int i : new int[] {MIN, -1, 16, 1000, MAX}) {
            due.is(when + ", trace(" + i + ")", x.trace(i), NONE);
        }
    }

    private static void promise4LatestAskAlone() {
        DoughRoom x = new DoughRoom();
        traceIs("4: ahead of any ask", x);
        x.batch(4, 1);
        x.batch(6, 1);
        traceIs("4: after batch", x);
        x.ask(0, 0, 20);
        x.ask(0, 0, 61);
        x.ask(2, 0, 20);
        x.ask(0, 6, 20);
        traceIs("4: after a BAD ask", x, 3, 2, 1);
        x.room(60);
        x.heat(0, 400);
        x.minutes(4);
        x.bake(1, 0);
        x.minutes(1);
        x.bake(1, 0);
        x.bake(0, 0);
        x.minutes(5);
        x.out(1);
        x.sell(1);
        x.day();
        x.told(0, 6);
        x.count(7);
        due.is("4: it was sold", x.told(1, 1), SOLD);
        traceIs("4: after other calls", x, 3, 2, 1);
        due.is("4: no glaze", x.ask(0, 5, 0), NO);
        traceIs("4: after a NO", x);

        DoughRoom y = done(4, 1);
        y.ask(0, 2, 50);
        y.day();
        traceIs("4: after a day that looks at KEEPS", y, 22, 21);
        y.sell(0);
        traceIs("4: after sell", y, 22, 21);
    }

    private static void promise5() {
        DoughRoom x = new DoughRoom();
        due.is("5: room(0)", x.room(0), 20);
        due.is("5: room(60)", x.room(60), 0);
        for (int w : new int[] {-1, 61, MIN, MAX}) {
            due.is("5: room(" + w + ")", x.room(w), BAD);
        }
        due.is("5: room(33)", x.room(33), 60);
        due.is("5: room(33) again", x.room(33), 33);
    }

    private static void promise6() {
        DoughRoom x = new DoughRoom();
        int[][] wrong = {{-1, 0}, {3, 0}, {MIN, 0}, {MAX, 0}, {0, -1}, {0, 401}, {0, MIN}, {0, MAX}};
        due.is("6: heat(0, 400)", x.heat(0, 400), 0);
        due.is("6: heat(1, 17)", x.heat(1, 17), 0);
        due.is("6: heat(2, 0)", x.heat(2, 0), 0);
        for (int[] w : wrong) {
            due.is("6: heat(" + w[0] + ", " + w[1] + ")", x.heat(w[0], w[1]), BAD);
        }
        due.is("6: heat(0, 0)", x.heat(0, 0), 400);
        due.is("6: heat(1, 18)", x.heat(1, 18), 17);
        due.is("6: heat(2, 19)", x.heat(2, 19), 0);
        due.is("6: heat(0, 1)", x.heat(0, 1), 0);
        due.is("6: the room's warmth", x.room(1), 20);
    }

    private static void promise7Rising() {
        DoughRoom x = new DoughRoom();
        x.batch(0, 1);
        due.is("7: minutes(40)", x.minutes(40), 0);
        due.is("7: risen by twice its need", x.told(0, 2), 200);
        due.is("7: it rises still", x.told(0, 1), RISES);
        due.is("7: minutes(1)", x.minutes(1), 1);
        due.is("7: risen above twice its need", x.told(0, 2), 205);
        due.is("7: it is lost", x.told(0, 1), LOST);
        due.is("7: it is lost once", x.minutes(200), 0);
        due.is("7: a lost one rises no more", x.told(0, 2), 205);

        DoughRoom y = new DoughRoom();
        y.batch(0, 1);
        y.batch(0, 500);
        y.room(60);
        due.is("7: minutes(20)", y.minutes(20), 1);
        due.is("7: falls in its 14th minute", y.told(0, 2), 210);
        due.is("7: 300 is twice 150", y.told(1, 2), 300);
        due.is("7: nothing at warmth 3", y.room(3), 60);
        due.is("7: minutes(200)", y.minutes(200), 0);
        due.is("7: it stays", y.told(1, 2), 300);
        y.room(4);
        due.is("7: one more", y.minutes(200), 1);
        due.is("7: it fell", y.told(1, 2), 301);
    }

    private static void promise7RisingOfEachKind() {
        DoughRoom x = new DoughRoom();
        for (int kind = 0; kind < 7; kind++) {
            x.batch(kind, 500);
        }
        x.room(42);
        due.is("7: minutes(1)", x.minutes(1), 0);
        int[] rise = {10, 10, 6, 6, 5, 10, 14};
        for (int kind = 0; kind < 7; kind++) {
            due.is("7: risen, kind " + kind, x.told(kind, 2), rise[kind]);
        }
        due.is("7: minutes(21)", x.minutes(21), 1);
        due.is("7: butter fell", x.told(6, 2), 308);
        due.is("7: minutes(8)", x.minutes(8), 0);
        due.is("7: dough and sweet fall", x.minutes(1), 2);
        due.is("7: yeast and sour fall", x.minutes(36), 2);
        due.is("7: sour and rye", x.told(2, 2), 402);
        due.is("7: rye is below its twice 203", x.told(3, 1), RISES);
        due.is("7: sour is above its twice 200", x.told(2, 1), LOST);
        due.is("7: rye falls", x.minutes(1), 1);
        due.is("7: black falls", x.minutes(13), 1);
        due.is("7: black is above twice 202", x.told(4, 2), 405);
        due.is("7: all are lost", x.count(5), 7);
    }

    private static void promise7Baking() {
        DoughRoom x = risen(0, 1, 1, 1);
        x.heat(0, 400);
        x.heat(1, 250);
        x.heat(2, 49);
        for (int b = 0; b < 3; b++) {
            x.bake(b, b);
        }
        due.is("7: minutes(12)", x.minutes(12), 0);
        due.is("7: browned at 400", x.told(0, 3), 96);
        due.is("7: browned at 250", x.told(1, 3), 60);
        due.is("7: browned at 49", x.told(2, 3), 0);
        due.is("7: one burns", x.minutes(1), 1);
        due.is("7: burnt", x.told(0, 3), 104);
        due.is("7: burnt one is lost", x.told(0, 1), LOST);
        due.is("7: burnt one is in no oven", x.told(0, 4), NONE);
        due.is("7: what bakes rises no more", x.told(2, 2), 100);
        due.is("7: minutes(7)", x.minutes(7), 0);
        due.is("7: 100 is not above 100", x.told(1, 3), 100);
        due.is("7: it bakes still", x.told(1, 1), IN_OVEN);
        due.is("7: minutes(200)", x.minutes(200), 1);
        due.is("7: burnt in the first of those", x.told(1, 3), 105);
        due.is("7: burnt one browns no more", x.told(0, 3), 104);

        DoughRoom slow = risen(0, 1);
        slow.heat(0, 50);
        slow.bake(0, 0);
        due.is("7: a hundred minutes at 50", slow.minutes(100), 0);
        due.is("7: one more burns it", slow.minutes(1), 1);
        due.is("7: 101 is above 100", slow.told(0, 3), 101);

        int[] brown = {4, 4, 4, 4, 2, 5, 5};
        for (int kind = 0; kind < 7; kind++) {
            DoughRoom y = risen(kind, 1);
            y.heat(2, 200);
            y.bake(0, 2);
            y.minutes(3);
            due.is("7: browned by three minutes, kind " + kind, y.told(0, 3), 3 * brown[kind]);
        }
    }

    private static void promise7OnlyWhatRisesOrBakes() {
        DoughRoom x = risen(0, 1, 1, 1);
        x.heat(0, 400);
        for (int b = 0; b < 3; b++) {
            x.bake(b, 0);
        }
        x.minutes(5);
        x.out(0);
        x.out(1);
        x.sell(1);
        due.is("7: only the one that bakes", x.minutes(200), 1);
        due.is("7: a done one stays", x.told(0, 1), DONE);
        due.is("7: a done one's browned", x.told(0, 3), 40);
        due.is("7: a sold one stays", x.told(1, 1), SOLD);
        due.is("7: a sold one's browned", x.told(1, 3), 40);
        due.is("7: a sold one's risen", x.told(1, 2), 100);
    }

    private static void promise7Wrong() {
        DoughRoom x = new DoughRoom();
        x.batch(0, 1);
        for (int n : new int[] {0, -1, 201, MIN, MAX}) {
            due.is("7: minutes(" + n + ")", x.minutes(n), BAD);
        }
        due.is("7: nothing rose", x.told(0, 2), 0);
        due.is("7: minutes(1)", x.minutes(1), 0);
        due.is("7: it rose", x.told(0, 2), 5);
        due.is("7: minutes(200)", x.minutes(200), 1);
    }

    private static void promise8Need() {
        DoughRoom x = new DoughRoom();
        x.batch(0, 1);
        x.minutes(19);
        due.is("8: risen by 95 of 100", x.bake(0, 2), NO);
        due.is("8: it rises still", x.told(0, 1), RISES);
        due.is("8: in no oven", x.told(0, 4), NONE);
        x.minutes(1);
        due.is("8: risen by 100 of 100", x.bake(0, 2), 1);
        due.is("8: it is in", x.told(0, 1), IN_OVEN);
        due.is("8: in oven 2", x.told(0, 4), 2);
        due.is("8: in already", x.bake(0, 2), NO);
        due.is("8: in already, another oven", x.bake(0, 1), NO);
        due.is("8: in oven 2 still", x.told(0, 4), 2);

        DoughRoom y = new DoughRoom();
        y.batch(3, 500);
        y.batch(4, 500);
        y.room(8);
        y.minutes(101);
        due.is("8: rye, 202 of 203", y.told(0, 2), 202);
        due.is("8: rye, 202 of 203", y.bake(0, 0), NO);
        due.is("8: black, 101 of 202", y.bake(1, 0), NO);
        y.minutes(1);
        due.is("8: rye, 204 of 203", y.bake(0, 0), 500);
        y.minutes(99);
        due.is("8: black, 201 of 202", y.bake(1, 1), NO);
        y.minutes(1);
        due.is("8: black, 202 of 202", y.bake(1, 1), 500);
    }

    private static void promise8Mass() {
        DoughRoom x = risen(0, 500, 300, 1, 1);
        due.is("8: bake(0, 0)", x.bake(0, 0), 500);
        due.is("8: bake(1, 0)", x.bake(1, 0), 800);
        due.is("8: above 800", x.bake(2, 0), FULL);
        due.is("8: it rises still", x.told(2, 1), RISES);
        due.is("8: in no oven", x.told(2, 4), NONE);
        due.is("8: none more in ovens", x.count(2), 2);
        due.is("8: another oven", x.bake(2, 1), 1);
        due.is("8: comes out", x.out(1), 0);
        due.is("8: its mass is free", x.bake(3, 0), 501);

        DoughRoom y = risen(0, 500, 400, 300);
        y.heat(0, 400);
        y.bake(0, 0);
        due.is("8: 900", y.bake(1, 0), FULL);
        y.room(0);
        due.is("8: it burns", y.minutes(200), 1);
        due.is("8: a burnt one's mass is free", y.bake(1, 0), 400);
        due.is("8: 700", y.bake(2, 0), 700);
    }

    private static void promise8Wrong() {
        DoughRoom x = risen(0, 500, 500);
        int[][] wrong = {{-1, 0}, {2, 0}, {40, 0}, {MIN, 0}, {MAX, 0}, {0, -1}, {0, 3}, {0, MIN}, {0, MAX}};
        for (int[] w : wrong) {
            due.is("8: bake(" + w[0] + ", " + w[1] + ")", x.bake(w[0], w[1]), BAD);
        }
        x.batch(0, 500);
        due.is("8: BAD ahead of NO", x.bake(2, 3), BAD);
        due.is("8: bake(0, 0)", x.bake(0, 0), 500);
        due.is("8: NO ahead of FULL", x.bake(2, 0), NO);
        due.is("8: FULL", x.bake(1, 0), FULL);
        x.out(0);
        due.is("8: a lost one", x.bake(0, 0), NO);
        DoughRoom y = done(0, 5);
        due.is("8: a done one", y.bake(0, 0), NO);
        y.sell(0);
        due.is("8: a sold one", y.bake(0, 0), NO);
    }

    private static void promise9() {
        DoughRoom x = risen(0, 1, 1, 1);
        x.heat(0, 200);
        x.heat(1, 150);
        x.bake(0, 0);
        x.bake(1, 1);
        x.bake(2, 2);
        x.minutes(10);
        due.is("9: browned 40", x.out(0), 40);
        due.is("9: done", x.told(0, 1), DONE);
        due.is("9: in no oven", x.told(0, 4), NONE);
        due.is("9: since day 0", x.told(0, 5), 0);
        x.minutes(3);
        x.day();
        due.is("9: browned 39", x.out(1), 39);
        due.is("9: lost", x.told(1, 1), LOST);
        due.is("9: in no oven", x.told(1, 4), NONE);
        due.is("9: not done", x.told(1, 5), NONE);
        due.is("9: browned 0", x.out(2), 0);
        due.is("9: lost", x.told(2, 1), LOST);
        due.is("9: browned stays told", x.told(0, 3), 40);
        due.is("9: no ovens in use", x.count(2), 0);

        DoughRoom y = risen(0, 1);
        y.day();
        y.day();
        y.bake(0, 0);
        y.heat(0, 250);
        y.minutes(20);
        due.is("9: browned 100", y.out(0), 100);
        due.is("9: since day 2", y.told(0, 5), 2);
    }

    private static void promise9Wrong() {
        DoughRoom x = done(0, 1);
        for (int b : new int[] {-1, 1, 40, MIN, MAX}) {
            due.is("9: out(" + b + ")", x.out(b), BAD);
        }
        x.day();
        due.is("9: a done one", x.out(0), NO);
        due.is("9: it is done since day 0 still", x.told(0, 5), 0);
        x.batch(0, 1);
        due.is("9: a rising one", x.out(1), NO);
        due.is("9: it rises still", x.told(1, 1), RISES);
        x.sell(0);
        due.is("9: a sold one", x.out(0), NO);
        due.is("9: it is sold still", x.told(0, 1), SOLD);
        x.minutes(200);
        due.is("9: a lost one", x.out(1), NO);
    }

    private static void promise10() {
        int[] worth = {34, 34, 34, 74, 238, 42, 93};
        for (int kind = 0; kind < 7; kind++) {
            DoughRoom x = done(kind, 120);
            due.is("10: sell at once, kind " + kind, x.sell(0), worth[kind]);
            due.is("10: sold, kind " + kind, x.told(0, 1), SOLD);
            due.is("10: done no more, kind " + kind, x.told(0, 5), NONE);
            due.is("10: till, kind " + kind, x.count(7), worth[kind]);
            due.is("10: sold already, kind " + kind, x.sell(0), NO);
            due.is("10: till still, kind " + kind, x.count(7), worth[kind]);

            DoughRoom y = done(kind, 120);
            y.day();
            due.is("10: sell a day later, kind " + kind, y.sell(0), worth[kind] - 1);
        }
        DoughRoom z = done(4, 120);
        for (int day = 0; day < 6; day++) {
            z.day();
        }
        due.is("10: black, six days later", z.sell(0), 232);
        due.is("10: till", z.count(7), 232);
    }

    private static void promise10Wrong() {
        DoughRoom x = done(0, 120);
        for (int b : new int[] {-1, 1, 40, MIN, MAX}) {
            due.is("10: sell(" + b + ")", x.sell(b), BAD);
        }
        x.batch(0, 1);
        due.is("10: one that rises", x.sell(1), NO);
        x.room(60);
        x.minutes(7);
        x.bake(1, 0);
        due.is("10: one that bakes", x.sell(1), NO);
        due.is("10: it bakes still", x.told(1, 1), IN_OVEN);
        x.out(1);
        due.is("10: a lost one", x.sell(1), NO);
        due.is("10: till", x.count(7), 0);
        x.day();
        x.day();
        due.is("10: one that kept no longer", x.sell(0), NO);
    }

    private static void promise11() {
        int[] keeps = {1, 1, 2, 2, 6, 1, 1};
        for (int kind = 0; kind < 7; kind++) {
            DoughRoom x = done(kind, 120);
            for (int day = 0; day < keeps[kind]; day++) {
                due.is("11: it keeps, kind " + kind, x.day(), 0);
                due.is("11: it is done, kind " + kind, x.told(0, 1), DONE);
                due.is("11: days, kind " + kind, x.count(6), day + 1);
            }
            due.is("11: it is lost, kind " + kind, x.day(), 1);
            due.is("11: how it is, kind " + kind, x.told(0, 1), LOST);
            due.is("11: done since, kind " + kind, x.told(0, 5), NONE);
            due.is("11: lost once, kind " + kind, x.day(), 0);
            due.is("11: days, kind " + kind, x.count(6), keeps[kind] + 2);
        }
        DoughRoom y = done(2, 500);
        for (int day = 0; day < 3; day++) {
            due.is("11: a sour of need 200 keeps", y.day(), 0);
        }
        due.is("11: not longer", y.day(), 1);
    }

    private static void promise11EachBatchByItsOwnDay() {
        DoughRoom x = risen(0, 1, 1, 1, 1, 1);
        x.room(0);
        x.heat(0, 200);
        for (int b = 0; b < 4; b++) {
            x.bake(b, 0);
        }
        x.minutes(10);
        x.out(0);
        x.out(1);
        due.is("11: first day", x.day(), 0);
        x.out(2);
        due.is("11: done since day 1", x.told(2, 5), 1);
        due.is("11: second day", x.day(), 2);
        due.is("11: the later one is done still", x.told(2, 1), DONE);
        due.is("11: third day", x.day(), 1);
        due.is("11: one that bakes stays", x.told(3, 1), IN_OVEN);
        due.is("11: one that rises stays", x.told(4, 1), RISES);
        due.is("11: no minute goes with a day", x.told(3, 3), 40);
        due.is("11: lost", x.count(5), 3);
    }

    /** Ten thousand days are more calls than the document speaks of; its FULL is kept all the same. */
    private static void promise11Full() {
        DoughRoom x = new DoughRoom();
        for (int day = 0; day < 9999; day++) {
            x.day();
        }
        due.is("11: the 10000th day", x.day(), 0);
        due.is("11: days", x.count(6), 10000);
        due.is("11: one more", x.day(), FULL);
        due.is("11: days still", x.count(6), 10000);
    }

    private static void promise12() {
        for (int kind = 0; kind < 7; kind++) {
            DoughRoom x = new DoughRoom();
            x.batch(kind, 50);
            int keeping = kind >= 2 && kind <= 4 ? 1 : 0;
            int glazed = kind >= 5 ? 1 : 0;
            toldAre("12: new, kind " + kind, x, kind, RISES, 0, 0, NONE, NONE, keeping, glazed);
        }
        DoughRoom y = risen(0, 1);
        toldAre("12: risen", y, 0, RISES, 100, 0, NONE, NONE, 0, 0);
        y.bake(0, 0);
        toldAre("12: in", y, 0, IN_OVEN, 100, 0, 0, NONE, 0, 0);
        y.heat(0, 300);
        y.minutes(7);
        y.day();
        toldAre("12: browned", y, 0, IN_OVEN, 100, 42, 0, NONE, 0, 0);
        y.out(0);
        toldAre("12: done", y, 0, DONE, 100, 42, NONE, 1, 0, 0);
        y.sell(0);
        toldAre("12: sold", y, 0, SOLD, 100, 42, NONE, NONE, 0, 0);
    }

    private static void toldAre(String when, DoughRoom x, int... want) {
        for (int what = 0; what < want.length; what++) {
            due.is(when + ", told(0, " + what + ")", x.told(0, what), want[what]);
        }
    }

    private static void promise12Wrong() {
        DoughRoom x = new DoughRoom();
        x.batch(0, 1);
        for (int what : new int[] {-1, 8, MIN, MAX}) {
            due.is("12: told(0, " + what + ")", x.told(0, what), BAD);
        }
        for (int b : new int[] {-1, 1, 39, 40, MIN, MAX}) {
            for (int what = 0; what < 8; what++) {
                due.is("12: told(" + b + ", " + what + ")", x.told(b, what), BAD);
            }
        }
    }

    private static void promise13() {
        DoughRoom x = risen(0, 1, 1, 1, 1, 1, 1);
        x.room(0);
        x.heat(1, 400);
        countsAre("13: risen", x, 6, 6, 0, 0, 0, 0, 0, 0);
        for (int b = 0; b < 5; b++) {
            x.bake(b, 1);
        }
        countsAre("13: in", x, 6, 1, 5, 0, 0, 0, 0, 0);
        x.out(0);
        x.minutes(5);
        x.day();
        x.out(1);
        x.out(2);
        x.sell(2);
        x.out(3);
        x.day();
        x.sell(3);
        countsAre("13: mixed", x, 6, 1, 1, 1, 2, 1, 2, 19);
        x.day();
        countsAre("13: a day later", x, 6, 1, 1, 0, 2, 2, 3, 19);
        for (int what : new int[] {-1, 8, MIN, MAX}) {
            due.is("13: count(" + what + ")", x.count(what), BAD);
        }
    }

    private static void countsAre(String when, DoughRoom x, int... want) {
        for (int what = 0; what < want.length; what++) {
            due.is(when + ", count(" + what + ")", x.count(what), want[what]);
        }
    }
}
