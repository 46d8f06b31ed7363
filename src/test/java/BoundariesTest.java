import java.util.Arrays;

/**
 * Each sentence of the document that names a limit, in the document's order: the last number that
 * is allowed and the first that is not, on either side; the empty and the full case. What a refused
 * call leaves as it was is RefusalsTest's.
 */
public final class BoundariesTest {
    private static final int NONE = -1, BAD = -2, NO = -3, FULL = -4;
    private static final int MIN = Integer.MIN_VALUE, MAX = Integer.MAX_VALUE;
    private static final int RISES = 0, IN_OVEN = 1, DONE = 2, SOLD = 3, LOST = 4;
    private static final int RISE = 0, NEED = 1, BROWN = 2, PRICE = 3, KEEPS = 4, GLAZE = 5;
    private static final int DOUGH = 0, YEAST = 1, SOUR = 2, RYE = 3, BLACK = 4, SWEET = 5, BUTTER = 6;
    private static final int KINDS = 7;

    /** The warmth at which a batch of each kind rises by just 1 a minute: so no number is skipped. */
    private static final int[] WARMTH_OF_ONE = {4, 4, 0, 0, 8, 4, 4};
    /** The heat at which a batch of each kind browns by just 1 a minute. */
    private static final int[] HEAT_OF_ONE = {50, 50, 50, 50, 50, 0, 0};
    private static final int[] NEED_OF_MASS_1 = {100, 150, 150, 153, 152, 100, 100};
    private static final int[] NEED_OF_MASS_500 = {150, 200, 200, 203, 202, 150, 150};

    private static final Due due = new Due();

    public static void main(String[] args) {
        whatItIs();
        terms();
        promises1To6();
        promises7To13();
        due.end();
    }

    private static void whatItIs() {
        the512thCallIsAnsweredStill();
    }

    private static void terms() {
        fortyBatchesAtMost();
        fortyWhateverBecameOfThem();
        massIsOneTo500();
        kindsAreZeroTo6();
        keepingAreSoursAndThoseBelow();
        glazedAreSweetsAndThoseBelow();
        riseIsCut();
        needIsCut();
        brownIsCut();
        priceIsCut();
        keepsIsCut();
        glazeIsCut();
        asAboveAndItsOwn();
        whatABatchIsAtFirst();
        whatTheRoomIsAtFirst();
        ovensHold800Together();
        eachOvenHoldsItsOwn800();
        whatIsNoLongerInMakesRoom();
        risenAboveTwiceTheNeedIsLost();
        risenAboveTwiceTheNeedWithinOneCall();
        brownedAbove100IsLost();
        brownedAbove100WithinOneCall();
        aMinuteTouchesNoOther();
        toBakeRisenByTheNeedAtLeast();
        doneFromBrowned40();
        daysTakeFromThePrice();
        theLeastThatCanComeToTheTill();
        keptForAsManyDaysBefore();
        keptByItsOwnDays();
    }

    private static void promises1To6() {
        newObjectHasNoBatches();
        batchNumbersGoUpFromZero();
        askOfEachWhat();
        askAtEachW();
        askAtAnyW();
        askOfOneThatHasNoneSuch();
        traceIsEmptyAheadOfAnAsk();
        traceEndsBehindTheLastBody();
        noOtherCallLeavesAnything();
        roomIsZeroTo60();
        heatIsZeroTo400();
        ovensAreZeroTo2();
    }

    private static void promises7To13() {
        minutesAreOneTo200();
        minutesCountTheLost();
        bakeAnswersTheMassThen();
        bakeOnlyWhatRises();
        outOnlyWhatIsIn();
        sellOnlyWhatIsDone();
        dayCountsTheLost();
        tenThousandDays();
        toldOfEachWhat();
        toldOvenAndDay();
        countOfEachWhat();
        countWhenEmptyAndWhenFull();
    }

    // Helpers

    private static int pass(DoughRoom x, int minutes) {
        int lost = 0;
        for (int left = minutes; left > 0; left -= 200) {
            lost += x.minutes(Math.min(left, 200));
        }
        return lost;
    }

    /** A room with a single batch, which has RISEN by exactly that. */
    private static DoughRoom risenBy(int kind, int mass, int risen) {
        DoughRoom x = new DoughRoom();
        x.batch(kind, mass);
        x.room(WARMTH_OF_ONE[kind]);
        pass(x, risen);
        return x;
    }

    /** A room with a single batch, which is IN oven 0 and BROWNED by exactly that. */
    private static DoughRoom brownedBy(int kind, int mass, int browned) {
        DoughRoom x = new DoughRoom();
        x.batch(kind, mass);
        x.room(WARMTH_OF_ONE[kind]);
        pass(x, x.ask(0, NEED, 0));
        due.is("bake, kind " + kind, x.bake(0, 0), mass);
        x.heat(0, HEAT_OF_ONE[kind]);
        pass(x, browned);
        return x;
    }

    private static DoughRoom done(int kind, int mass) {
        DoughRoom x = brownedBy(kind, mass, 40);
        due.is("out, kind " + kind, x.out(0), 40);
        return x;
    }

    /** A room of DOUGHS of those masses, all of which may be baked and none of which rises on. */
    private static DoughRoom ready(int... masses) {
        DoughRoom x = new DoughRoom();
        for (int mass : masses) {
            x.batch(DOUGH, mass);
        }
        x.room(60);
        x.minutes(10);
        x.room(0);
        return x;
    }

    private static DoughRoom roomOf(int batches) {
        DoughRoom x = new DoughRoom();
        for (int b = 0; b < batches; b++) {
            x.batch(DOUGH, 1);
        }
        return x;
    }

    private static int ask(int kind, int mass, int what, int w) {
        DoughRoom x = new DoughRoom();
        x.batch(kind, mass);
        return x.ask(0, what, w);
    }

    private static void traceIs(String when, DoughRoom x, int... want) {
        for (int i = -1; i < 12; i++) {
            int number = i >= 0 && i < want.length ? want[i] : NONE;
            due.is(when + ", trace(" + i + ")", x.trace(i), number);
        }
        due.is(when + ", trace(MIN)", x.trace(MIN), NONE);
        due.is(when + ", trace(MAX)", x.trace(MAX), NONE);
    }

    // What it is

    /** "An object is used for at most 512 calls after it has been made." */
    private static void the512thCallIsAnsweredStill() {
        DoughRoom days = new DoughRoom();
        for (int call = 1; call <= 511; call++) {
            due.is("call " + call + ", day()", days.day(), 0);
        }
        due.is("call 512, count(6)", days.count(6), 511);

        DoughRoom asks = new DoughRoom();
        asks.batch(BLACK, 500);
        for (int call = 2; call <= 511; call++) {
            due.is("call " + call + ", ask(0, KEEPS)", asks.ask(0, KEEPS, 0), 9);
        }
        due.is("call 512, trace(9)", asks.trace(9), 1);

        DoughRoom minutes = new DoughRoom();
        minutes.room(0);
        for (int call = 2; call <= 41; call++) {
            due.is("call " + call + ", batch", minutes.batch(DOUGH, 500), call - 2);
        }
        for (int call = 42; call <= 511; call++) {
            due.is("call " + call + ", minutes(200)", minutes.minutes(200), 0);
        }
        due.is("call 512, told(39, 2)", minutes.told(39, 2), 0);
    }

    // Terms

    /** "BATCHES 0, 1, .. (40 at most)". */
    private static void fortyBatchesAtMost() {
        DoughRoom x = roomOf(38);
        due.is("the 39th", x.batch(BUTTER, 500), 38);
        due.is("the 40th", x.batch(BLACK, 1), 39);
        due.is("40 of them", x.count(0), 40);
        due.is("the 40th is there", x.told(39, 0), BLACK);
        due.is("the 40th answers", x.ask(39, NEED, 0), 152);
        due.is("the 41st", x.batch(BLACK, 1), FULL);
        due.is("the 42nd", x.batch(BLACK, 1), FULL);
        due.is("40 of them still", x.count(0), 40);
        due.is("there is no 41st", x.told(40, 0), BAD);
    }

    /** "(40 at most)": those that are SOLD or LOST are BATCHES too. */
    private static void fortyWhateverBecameOfThem() {
        DoughRoom x = roomOf(40);
        x.minutes(20);
        for (int b = 0; b < 20; b++) {
            due.is("bake " + b, x.bake(b, 0), b + 1);
        }
        x.heat(0, 400);
        x.minutes(5);
        for (int b = 0; b < 10; b++) {
            x.out(b);
            due.is("sell " + b, x.sell(b), 10);
        }
        due.is("all others are lost", x.minutes(200), 30);
        due.is("none rises", x.count(1), 0);
        due.is("10 are sold", x.count(4), 10);
        due.is("30 are lost", x.count(5), 30);
        due.is("one more", x.batch(DOUGH, 1), FULL);
    }

    /** "a MASS (1 .. 500)". */
    private static void massIsOneTo500() {
        for (int kind = 0; kind < KINDS; kind++) {
            DoughRoom x = new DoughRoom();
            due.is("mass 1", x.batch(kind, 1), 0);
            due.is("mass 500", x.batch(kind, 500), 1);
            for (int mass : new int[] {MIN, MIN + 1, -500, -1, 0, 501, 502, 1000, MAX - 1, MAX}) {
                due.is("batch(" + kind + ", " + mass + ")", x.batch(kind, mass), BAD);
            }
            due.is("two of them", x.count(0), 2);
            due.is("need of mass 1", x.ask(0, NEED, 0), NEED_OF_MASS_1[kind]);
            due.is("need of mass 500", x.ask(1, NEED, 0), NEED_OF_MASS_500[kind]);
        }
    }

    /** "KINDS, each below one: 0 DOUGH; .. 6 BUTTER". */
    private static void kindsAreZeroTo6() {
        DoughRoom x = new DoughRoom();
        for (int kind : new int[] {MIN, MIN + 1, -7, -1, 7, 8, MAX - 1, MAX}) {
            due.is("batch(" + kind + ", 1)", x.batch(kind, 1), BAD);
        }
        for (int kind = 0; kind < KINDS; kind++) {
            due.is("batch(" + kind + ", 1)", x.batch(kind, 1), kind);
            due.is("its kind", x.told(kind, 0), kind);
        }
    }

    /** "KEEPING are SOURS and those below them". */
    private static void keepingAreSoursAndThoseBelow() {
        int[] keeping = {0, 0, 1, 1, 1, 0, 0};
        int[] keeps = {NO, NO, 2, 2, 6, NO, NO};
        for (int kind = 0; kind < KINDS; kind++) {
            DoughRoom x = new DoughRoom();
            x.batch(kind, 1);
            due.is("whether it is keeping, kind " + kind, x.told(0, 6), keeping[kind]);
            due.is("what it keeps, kind " + kind, x.ask(0, KEEPS, 0), keeps[kind]);
        }
    }

    /** "GLAZED are SWEETS and those below them". */
    private static void glazedAreSweetsAndThoseBelow() {
        int[] glazed = {0, 0, 0, 0, 0, 1, 1};
        int[] glaze = {NO, NO, NO, NO, NO, 6, 25};
        for (int kind = 0; kind < KINDS; kind++) {
            DoughRoom x = new DoughRoom();
            x.batch(kind, 1);
            due.is("whether it is glazed, kind " + kind, x.told(0, 7), glazed[kind]);
            due.is("its glaze, kind " + kind, x.ask(0, GLAZE, 0), glaze[kind]);
        }
    }

    private static void answersAre(String what, int[] got, int... want) {
        for (int i = 0; i < want.length; i++) {
            due.is(what + ", number " + i, got[i], want[i]);
        }
    }

    private static int[] risesAt(int kind, int... warmths) {
        int[] got = new int[warmths.length];
        for (int i = 0; i < warmths.length; i++) {
            got[i] = ask(kind, 1, RISE, warmths[i]);
        }
        return got;
    }

    /** "/ is cut": RISE, right below and at where a quotient becomes one more. */
    private static void riseIsCut() {
        for (int kind : new int[] {DOUGH, YEAST, SWEET}) {
            answersAre("rise, kind " + kind, risesAt(kind, 0, 3, 4, 7, 8, 55, 56, 59, 60),
                    0, 0, 1, 1, 2, 13, 14, 14, 15);
        }
        for (int kind : new int[] {SOUR, RYE}) {
            answersAre("rise, kind " + kind, risesAt(kind, 0, 4, 7, 8, 15, 16, 55, 56, 60),
                    1, 1, 1, 2, 2, 3, 7, 8, 8);
        }
        answersAre("rise of black", risesAt(BLACK, 0, 4, 7, 8, 15, 16, 55, 56, 60),
                0, 0, 0, 1, 1, 2, 6, 7, 7);
        answersAre("rise of butter", risesAt(BUTTER, 0, 3, 4, 9, 10, 19, 20, 49, 50, 59, 60),
                0, 0, 1, 2, 3, 5, 7, 16, 17, 19, 21);
    }

    /** "/ is cut": NEED, right below and at where MASS / 10 becomes one more. */
    private static void needIsCut() {
        int[] masses = {1, 9, 10, 19, 20, 499, 500};
        int[] tenths = {0, 0, 1, 1, 2, 49, 50};
        for (int kind = 0; kind < KINDS; kind++) {
            for (int i = 0; i < masses.length; i++) {
                due.is("need of mass " + masses[i] + ", kind " + kind, ask(kind, masses[i], NEED, 0),
                        NEED_OF_MASS_1[kind] + tenths[i]);
            }
        }
    }

    private static int[] brownsAt(int kind, int... heats) {
        int[] got = new int[heats.length];
        for (int i = 0; i < heats.length; i++) {
            got[i] = ask(kind, 1, BROWN, heats[i]);
        }
        return got;
    }

    /** "/ is cut": BROWN, right below and at where a quotient becomes one more. */
    private static void brownIsCut() {
        for (int kind : new int[] {DOUGH, YEAST, SOUR, RYE}) {
            answersAre("brown, kind " + kind, brownsAt(kind, 0, 49, 50, 99, 100, 349, 350, 399, 400),
                    0, 0, 1, 1, 2, 6, 7, 7, 8);
        }
        answersAre("brown of black", brownsAt(BLACK, 0, 49, 50, 199, 200, 349, 350, 399, 400),
                0, 0, 1, 1, 2, 2, 3, 3, 3);
        for (int kind : new int[] {SWEET, BUTTER}) {
            answersAre("brown, kind " + kind, brownsAt(kind, 0, 49, 50, 99, 100, 349, 350, 399, 400),
                    1, 1, 2, 2, 3, 7, 8, 8, 9);
        }
    }

    private static int[] ofMasses(int kind, int what, int... masses) {
        int[] got = new int[masses.length];
        for (int i = 0; i < masses.length; i++) {
            got[i] = ask(kind, masses[i], what, 0);
        }
        return got;
    }

    /** "/ is cut": PRICE, right below and at where MASS / 5 becomes one more. */
    private static void priceIsCut() {
        for (int kind : new int[] {DOUGH, YEAST, SOUR, SWEET}) {
            answersAre("price, kind " + kind, ofMasses(kind, PRICE, 1, 4, 5, 9, 10, 499, 500),
                    10, 10, 11, 11, 12, 109, 110);
        }
        answersAre("price of rye", ofMasses(RYE, PRICE, 1, 4, 5, 9, 10, 499, 500),
                50, 50, 51, 51, 52, 149, 150);
        answersAre("price of black", ofMasses(BLACK, PRICE, 1, 4, 5, 9, 10, 499, 500),
                202, 202, 203, 203, 205, 350, 352);
        answersAre("price of butter", ofMasses(BUTTER, PRICE, 1, 4, 5, 9, 10, 499, 500),
                20, 20, 22, 22, 24, 218, 220);
    }

    /** "/ is cut": KEEPS, right below and at where ITS OWN NEED / 100 or PRICE / 50 becomes one more. */
    private static void keepsIsCut() {
        answersAre("keeps of sour", ofMasses(SOUR, KEEPS, 1, 499, 500), 2, 2, 3);
        answersAre("keeps of rye", ofMasses(RYE, KEEPS, 1, 469, 470, 500), 2, 2, 3, 3);
        answersAre("keeps of black", ofMasses(BLACK, KEEPS, 1, 159, 160, 329, 330, 494, 495, 500),
                6, 6, 7, 7, 8, 8, 9, 9);
    }

    /** "/ is cut": GLAZE, right below and at where ITS OWN PRICE / 10 becomes one more. */
    private static void glazeIsCut() {
        answersAre("glaze of sweet", ofMasses(SWEET, GLAZE, 1, 49, 50, 99, 100, 499, 500),
                6, 6, 7, 7, 8, 15, 16);
        answersAre("glaze of butter", ofMasses(BUTTER, GLAZE, 1, 49, 50, 99, 100, 499, 500),
                25, 25, 25, 25, 25, 25, 25);
    }

    /** "AS ABOVE .. for the same number. ITS OWN in a BODY is what the BATCH itself answers." */
    private static void asAboveAndItsOwn() {
        for (int warmth : new int[] {0, 20, 60}) {
            DoughRoom x = new DoughRoom();
            x.batch(RYE, 1);
            x.batch(BLACK, 1);
            x.room(warmth);
            due.is("rye's need is by its rise at 20, not at the room's", x.ask(0, NEED, warmth), 153);
            due.is("black's need is by a black's rise", x.ask(1, NEED, warmth), 152);
        }
        DoughRoom y = new DoughRoom();
        y.batch(BUTTER, 500);
        y.heat(0, 400);
        due.is("butter's glaze is by its brown at 200", y.ask(0, GLAZE, 400), 25);
    }

    /** "A BATCH RISES (at first) .. RISEN and BROWNED are 0 at first." */
    private static void whatABatchIsAtFirst() {
        DoughRoom x = new DoughRoom();
        x.room(60);
        for (int oven = 0; oven < 3; oven++) {
            x.heat(oven, 400);
        }
        x.day();
        x.minutes(200);
        for (int kind = 0; kind < KINDS; kind++) {
            int b = x.batch(kind, 500);
            int[] want = {kind, RISES, 0, 0, NONE, NONE};
            for (int what = 0; what < want.length; what++) {
                due.is("a new batch, told(" + b + ", " + what + ")", x.told(b, what), want[what]);
            }
        }
    }

    /** "The ROOM has a warmth (20 at first), OVENS 0 .. 2 a heat each (0 at first) .. DAYS .. 0 at first." */
    private static void whatTheRoomIsAtFirst() {
        DoughRoom x = new DoughRoom();
        due.is("days", x.count(6), 0);
        due.is("the till", x.count(7), 0);
        for (int oven = 0; oven < 3; oven++) {
            due.is("heat of oven " + oven, x.heat(oven, 400), 0);
        }
        due.is("warmth", x.room(60), 20);

        DoughRoom y = new DoughRoom();
        y.batch(DOUGH, 1);
        y.minutes(1);
        due.is("it rises at 20", y.told(0, 2), 5);
        y.minutes(19);
        y.bake(0, 2);
        y.minutes(200);
        due.is("it browns at 0", y.told(0, 3), 0);
    }

    /** "what is IN an OVEN has a MASS of 800 at most, together". */
    private static void ovensHold800Together() {
        for (int oven = 0; oven < 3; oven++) {
            DoughRoom x = ready(500, 301, 300, 299, 1, 1);
            due.is("500", x.bake(0, oven), 500);
            due.is("801", x.bake(1, oven), FULL);
            due.is("799", x.bake(3, oven), 799);
            due.is("1099", x.bake(2, oven), FULL);
            due.is("800", x.bake(4, oven), 800);
            due.is("801", x.bake(5, oven), FULL);
            due.is("three are in", x.count(2), 3);

            DoughRoom y = ready(500, 300, 1, 500);
            y.bake(0, oven);
            due.is("800 by two", y.bake(1, oven), 800);
            due.is("801", y.bake(2, oven), FULL);
            due.is("1300", y.bake(3, oven), FULL);
        }
        int[] masses = new int[40];
        Arrays.fill(masses, 20);
        DoughRoom many = ready(masses);
        for (int b = 0; b < 40; b++) {
            due.is("forty together", many.bake(b, 1), 20 * (b + 1));
        }
        due.is("all are in", many.count(2), 40);

        masses[39] = 21;
        DoughRoom more = ready(masses);
        for (int b = 0; b < 39; b++) {
            more.bake(b, 1);
        }
        due.is("801 by forty", more.bake(39, 1), FULL);
    }

    /** "what is IN an OVEN": another OVEN's does not count. */
    private static void eachOvenHoldsItsOwn800() {
        DoughRoom x = ready(500, 300, 500, 300, 500, 300, 1);
        for (int oven = 0; oven < 3; oven++) {
            due.is("500 in oven " + oven, x.bake(2 * oven, oven), 500);
            due.is("800 in oven " + oven, x.bake(2 * oven + 1, oven), 800);
        }
        for (int oven = 0; oven < 3; oven++) {
            due.is("801 in oven " + oven, x.bake(6, oven), FULL);
        }
        due.is("it rises still", x.told(6, 1), RISES);
    }

    /** "what is IN an OVEN": what came OUT or burnt is not. */
    private static void whatIsNoLongerInMakesRoom() {
        DoughRoom x = ready(500, 300, 300, 1);
        x.heat(0, 50);
        x.bake(0, 0);
        x.bake(1, 0);
        x.minutes(40);
        due.is("one comes out, done", x.out(1), 40);
        due.is("800 again", x.bake(2, 0), 800);
        due.is("801", x.bake(3, 0), FULL);
        x.minutes(39);
        due.is("one comes out, lost", x.out(2), 39);
        due.is("501", x.bake(3, 0), 501);

        DoughRoom y = ready(500, 300, 500, 300);
        y.heat(0, 50);
        y.bake(0, 0);
        y.bake(1, 0);
        due.is("none burns by 100", y.minutes(100), 0);
        due.is("1300", y.bake(2, 0), FULL);
        due.is("both burn by 101", y.minutes(1), 2);
        due.is("500", y.bake(2, 0), 500);
        due.is("800", y.bake(3, 0), 800);
    }

    /** "if it is above twice its NEED then, it is LOST." */
    private static void risenAboveTwiceTheNeedIsLost() {
        for (int kind = 0; kind < KINDS; kind++) {
            for (int mass : new int[] {1, 500}) {
                int twice = 2 * (mass == 1 ? NEED_OF_MASS_1[kind] : NEED_OF_MASS_500[kind]);
                String of = ", kind " + kind + ", mass " + mass;
                DoughRoom x = risenBy(kind, mass, twice - 1);
                due.is("one below twice" + of, x.told(0, 2), twice - 1);
                due.is("none is lost" + of, x.minutes(1), 0);
                due.is("twice" + of, x.told(0, 2), twice);
                due.is("it rises still" + of, x.told(0, 1), RISES);
                due.is("one is lost" + of, x.minutes(1), 1);
                due.is("one above twice" + of, x.told(0, 2), twice + 1);
                due.is("it is lost" + of, x.told(0, 1), LOST);
                due.is("it is not lost again" + of, x.minutes(200), 0);
                due.is("it rises no more" + of, x.told(0, 2), twice + 1);
            }
        }
        DoughRoom y = risenBy(DOUGH, 1, 200);
        due.is("at twice its need it may be baked", y.bake(0, 0), 1);
    }

    /** The same, where a call's MINUTES go on behind the one that it is LOST in. */
    private static void risenAboveTwiceTheNeedWithinOneCall() {
        DoughRoom x = risenBy(DOUGH, 1, 1);
        due.is("lost in the 200th minute", x.minutes(200), 1);
        due.is("by 201", x.told(0, 2), 201);
        DoughRoom y = risenBy(DOUGH, 1, 2);
        due.is("lost in the 199th minute", y.minutes(200), 1);
        due.is("by 201", y.told(0, 2), 201);
        DoughRoom z = new DoughRoom();
        z.batch(BUTTER, 1);
        z.room(60);
        due.is("lost in the 10th minute", z.minutes(200), 1);
        due.is("by 210", z.told(0, 2), 210);
        DoughRoom still = new DoughRoom();
        still.batch(BLACK, 1);
        still.batch(DOUGH, 1);
        still.room(0);
        due.is("no rise, none lost", still.minutes(200), 0);
        due.is("black's rise at 0", still.told(0, 2), 0);
        due.is("dough's rise at 0", still.told(1, 2), 0);
    }

    /** "if it is above 100 then, it is LOST." */
    private static void brownedAbove100IsLost() {
        for (int kind = 0; kind < KINDS; kind++) {
            DoughRoom x = brownedBy(kind, 500, 99);
            due.is("99, kind " + kind, x.told(0, 3), 99);
            due.is("none is lost, kind " + kind, x.minutes(1), 0);
            due.is("100, kind " + kind, x.told(0, 3), 100);
            due.is("it is in still, kind " + kind, x.told(0, 1), IN_OVEN);
            due.is("one is lost, kind " + kind, x.minutes(1), 1);
            due.is("101, kind " + kind, x.told(0, 3), 101);
            due.is("it is lost, kind " + kind, x.told(0, 1), LOST);
            due.is("it is in no oven, kind " + kind, x.told(0, 4), NONE);
            due.is("it does not come out, kind " + kind, x.out(0), NO);
            due.is("it is not lost again, kind " + kind, x.minutes(200), 0);
            due.is("it browns no more, kind " + kind, x.told(0, 3), 101);

            DoughRoom y = brownedBy(kind, 500, 100);
            due.is("100 comes out, kind " + kind, y.out(0), 100);
            due.is("done, kind " + kind, y.told(0, 1), DONE);
        }
    }

    /** The same, where a call's MINUTES go on behind the one that it is LOST in. */
    private static void brownedAbove100WithinOneCall() {
        DoughRoom x = brownedBy(DOUGH, 1, 0);
        due.is("lost in the 101st minute", x.minutes(200), 1);
        due.is("by 101", x.told(0, 3), 101);
        DoughRoom y = brownedBy(SWEET, 1, 99);
        y.heat(0, 400);
        due.is("lost in the first minute", y.minutes(200), 1);
        due.is("by 108", y.told(0, 3), 108);
        DoughRoom z = brownedBy(BLACK, 1, 0);
        z.heat(0, 49);
        due.is("no brown, none lost", z.minutes(200), 0);
        due.is("by 0", z.told(0, 3), 0);
        due.is("it is in still", z.told(0, 4), 0);
    }

    /** "each BATCH that RISES .. RISEN is more. Each that is IN an OVEN: BROWNED is more." */
    private static void aMinuteTouchesNoOther() {
        DoughRoom x = ready(1, 1, 1, 1);
        x.heat(1, 200);
        for (int b = 0; b < 3; b++) {
            x.bake(b, 1);
        }
        x.minutes(10);
        x.out(0);
        x.out(1);
        x.sell(1);
        x.room(4);
        due.is("one minute", x.minutes(1), 0);
        int[] risen = {150, 150, 150, 151};
        int[] browned = {40, 40, 44, 0};
        for (int b = 0; b < 4; b++) {
            due.is("risen of " + b, x.told(b, 2), risen[b]);
            due.is("browned of " + b, x.told(b, 3), browned[b]);
        }
    }

    /** "TO BAKE: one that RISES and has RISEN by its NEED at least." */
    private static void toBakeRisenByTheNeedAtLeast() {
        for (int kind = 0; kind < KINDS; kind++) {
            for (int mass : new int[] {1, 500}) {
                int need = mass == 1 ? NEED_OF_MASS_1[kind] : NEED_OF_MASS_500[kind];
                String of = ", kind " + kind + ", mass " + mass;
                due.is("risen by 0" + of, risenBy(kind, mass, 0).bake(0, 0), NO);
                DoughRoom x = risenBy(kind, mass, need - 1);
                due.is("one below its need" + of, x.bake(0, 0), NO);
                x.minutes(1);
                due.is("its need" + of, x.told(0, 2), need);
                due.is("its need is enough" + of, x.bake(0, 0), mass);
                due.is("one above" + of, risenBy(kind, mass, need + 1).bake(0, 2), mass);
            }
        }
    }

    /** "It comes OUT: DONE, if BROWNED is 40 at least, else LOST." */
    private static void doneFromBrowned40() {
        int[] browned = {0, 1, 39, 40, 41, 100};
        int[] how = {LOST, LOST, LOST, DONE, DONE, DONE};
        for (int kind = 0; kind < KINDS; kind++) {
            for (int i = 0; i < browned.length; i++) {
                String of = ", kind " + kind + ", browned " + browned[i];
                DoughRoom x = brownedBy(kind, 1, browned[i]);
                due.is("out" + of, x.out(0), browned[i]);
                due.is("how it is" + of, x.told(0, 1), how[i]);
                due.is("its oven" + of, x.told(0, 4), NONE);
                due.is("done since" + of, x.told(0, 5), how[i] == DONE ? 0 : NONE);
            }
        }
    }

    /** "its PRICE, and of GLAZED ones its GLAZE, less the DAYS since it was DONE". */
    private static void daysTakeFromThePrice() {
        int[] worth = {10, 10, 10, 50, 202, 16, 45};
        int[] keeps = {1, 1, 2, 2, 6, 1, 1};
        for (int kind = 0; kind < KINDS; kind++) {
            for (int days = 0; days <= keeps[kind] + 1; days++) {
                DoughRoom x = done(kind, 1);
                for (int day = 0; day < days; day++) {
                    x.day();
                }
                int want = days <= keeps[kind] ? worth[kind] - days : NO;
                due.is("sell after " + days + " days, kind " + kind, x.sell(0), want);
                due.is("the till, kind " + kind, x.count(7), Math.max(0, want));
            }
        }
        DoughRoom late = brownedBy(DOUGH, 1, 40);
        for (int day = 0; day < 50; day++) {
            late.day();
        }
        late.out(0);
        due.is("days before it was done don't count", late.sell(0), 10);
    }

    /**
     * "but at least 1": no kind is worth so little for as long as it keeps. The least is a SOUR of
     * MASS 1 on its last day, so here stands that nothing below that comes, and nothing below 1.
     */
    private static void theLeastThatCanComeToTheTill() {
        int least = MAX;
        for (int kind = 0; kind < KINDS; kind++) {
            DoughRoom x = done(kind, 4);
            int sold = NO;
            for (int day = 0; day < 20; day++) {
                DoughRoom y = done(kind, 4);
                for (int gone = 0; gone < day; gone++) {
                    y.day();
                }
                sold = y.sell(0);
                due.isTrue("NO or at least 1, kind " + kind + ", day " + day, sold == NO || sold >= 1);
                least = sold >= 1 ? Math.min(least, sold) : least;
            }
            due.is("it keeps no more, kind " + kind, sold, NO);
            due.isTrue("it was worth something, kind " + kind, x.sell(0) >= 1);
        }
        due.is("the least", least, 8);
    }

    /** "each that is DONE, and was so for as many DAYS before as it KEEPS (1, if it is not KEEPING)". */
    private static void keptForAsManyDaysBefore() {
        int[][] keepsOf = {
            {DOUGH, 1, 1}, {DOUGH, 500, 1}, {YEAST, 1, 1}, {YEAST, 500, 1}, {SWEET, 500, 1}, {BUTTER, 500, 1},
            {SOUR, 499, 2}, {SOUR, 500, 3}, {RYE, 469, 2}, {RYE, 470, 3},
            {BLACK, 1, 6}, {BLACK, 159, 6}, {BLACK, 160, 7}, {BLACK, 500, 9},
        };
        for (int[] k : keepsOf) {
            String of = ", kind " + k[0] + ", mass " + k[1];
            DoughRoom x = done(k[0], k[1]);
            for (int day = 1; day <= k[2]; day++) {
                due.is("day " + day + of, x.day(), 0);
                due.is("it is done still" + of, x.told(0, 1), DONE);
                due.is("since day 0" + of, x.told(0, 5), 0);
            }
            due.is("one day more" + of, x.day(), 1);
            due.is("it is lost" + of, x.told(0, 1), LOST);
            due.is("it is not done" + of, x.told(0, 5), NONE);
            due.is("it is not lost again" + of, x.day(), 0);
            due.is("it is not sold" + of, x.sell(0), NO);
        }
    }

    /** "was so for as many DAYS before": the DAYS that went while it baked are not such. */
    private static void keptByItsOwnDays() {
        for (int kind : new int[] {DOUGH, SOUR, SWEET}) {
            int keeps = kind == SOUR ? 2 : 1;
            DoughRoom x = brownedBy(kind, 1, 40);
            for (int day = 0; day < 5; day++) {
                due.is("a day while it bakes, kind " + kind, x.day(), 0);
            }
            x.out(0);
            due.is("since day 5, kind " + kind, x.told(0, 5), 5);
            for (int day = 0; day < keeps; day++) {
                due.is("it keeps, kind " + kind, x.day(), 0);
            }
            due.is("not longer, kind " + kind, x.day(), 1);
            due.is("days, kind " + kind, x.count(6), 6 + keeps);
        }
    }

    // Promises 1 to 6

    /** Promise 1: "No BATCHES." */
    private static void newObjectHasNoBatches() {
        DoughRoom x = new DoughRoom();
        for (int what = 0; what <= 7; what++) {
            due.is("count(" + what + ") of a new one", x.count(what), 0);
            due.is("told(0, " + what + ") of a new one", x.told(0, what), BAD);
        }
        for (int what = 0; what <= 5; what++) {
            due.is("ask(0, " + what + ", 0) of a new one", x.ask(0, what, 0), BAD);
        }
        due.is("bake(0, 0) of a new one", x.bake(0, 0), BAD);
        due.is("out(0) of a new one", x.out(0), BAD);
        due.is("sell(0) of a new one", x.sell(0), BAD);
        due.is("minutes(200) of a new one", x.minutes(200), 0);
        due.is("day() of a new one", x.day(), 0);
        traceIs("of a new one", x);
    }

    /** Promise 2: "A BATCH: its number." A refused one takes no number. */
    private static void batchNumbersGoUpFromZero() {
        DoughRoom x = new DoughRoom();
        for (int b = 0; b < 40; b++) {
            due.is("a refused one", x.batch(b % 2 == 0 ? 7 : -1, 1), BAD);
            due.is("another", x.batch(0, b % 2 == 0 ? 0 : 501), BAD);
            due.is("batch " + b, x.batch(b % KINDS, 1 + b), b);
            due.is("so many", x.count(0), b + 1);
            due.is("there is none behind it", x.told(b + 1, 0), BAD);
        }
    }

    /** Promise 3: "0 RISE .. 5 GLAZE". */
    private static void askOfEachWhat() {
        DoughRoom x = new DoughRoom();
        x.batch(BLACK, 1);
        int[] want = {BAD, 1, 152, 1, 202, 6, NO, BAD};
        for (int what = -1; what <= 6; what++) {
            due.is("ask(0, " + what + ", 10)", x.ask(0, what, 10), what == BROWN ? 0 : want[what + 1]);
        }
        due.is("ask(0, 2, 100)", x.ask(0, BROWN, 100), 1);
        for (int what : new int[] {MIN, -2, 7, MAX}) {
            due.is("ask(0, " + what + ", 10)", x.ask(0, what, 10), BAD);
        }
        for (int batch : new int[] {MIN, -1, 1, 39, 40, 41, MAX}) {
            for (int what = -1; what <= 6; what++) {
                due.is("ask(" + batch + ", " + what + ", 10)", x.ask(batch, what, 10), BAD);
            }
        }
    }

    /** Promise 3: "RISE at w (0 .. 60) .. BROWN at w (0 .. 400)". */
    private static void askAtEachW() {
        int[] riseAt60 = {15, 15, 8, 8, 7, 15, 21};
        int[] riseAt0 = {0, 0, 1, 1, 0, 0, 0};
        int[] brownAt400 = {8, 8, 8, 8, 3, 9, 9};
        int[] brownAt0 = {0, 0, 0, 0, 0, 1, 1};
        DoughRoom x = new DoughRoom();
        for (int kind = 0; kind < KINDS; kind++) {
            x.batch(kind, 1);
            due.is("rise at 0", x.ask(kind, RISE, 0), riseAt0[kind]);
            due.is("rise at 60", x.ask(kind, RISE, 60), riseAt60[kind]);
            due.is("brown at 0", x.ask(kind, BROWN, 0), brownAt0[kind]);
            due.is("brown at 400", x.ask(kind, BROWN, 400), brownAt400[kind]);
            for (int w : new int[] {MIN, -4, -1, 61, 64, 400, MAX}) {
                due.is("rise at " + w, x.ask(kind, RISE, w), BAD);
            }
            for (int w : new int[] {MIN, -50, -1, 401, 450, MAX}) {
                due.is("brown at " + w, x.ask(kind, BROWN, w), BAD);
            }
        }
    }

    /** Promise 3: "(of 1, 3, 4, 5 any w)". */
    private static void askAtAnyW() {
        for (int w : new int[] {MIN, -1, 0, 60, 61, 400, 401, MAX}) {
            DoughRoom x = new DoughRoom();
            x.batch(BLACK, 1);
            x.batch(BUTTER, 1);
            due.is("need, w " + w, x.ask(0, NEED, w), 152);
            due.is("price, w " + w, x.ask(0, PRICE, w), 202);
            due.is("keeps, w " + w, x.ask(0, KEEPS, w), 6);
            due.is("no glaze, w " + w, x.ask(0, GLAZE, w), NO);
            due.is("need, w " + w, x.ask(1, NEED, w), 100);
            due.is("price, w " + w, x.ask(1, PRICE, w), 20);
            due.is("no keeps, w " + w, x.ask(1, KEEPS, w), NO);
            due.is("glaze, w " + w, x.ask(1, GLAZE, w), 25);
        }
    }

    /** Promise 3: "NO: 4, 5 of one that has none such." A BATCH answers however it is. */
    private static void askOfOneThatHasNoneSuch() {
        int[][] want = {{NO, NO}, {NO, NO}, {2, NO}, {2, NO}, {6, NO}, {NO, 6}, {NO, 25}};
        for (int kind = 0; kind < KINDS; kind++) {
            DoughRoom[] rooms = {risenBy(kind, 1, 0), brownedBy(kind, 1, 0), done(kind, 1), done(kind, 1),
                brownedBy(kind, 1, 101)};
            rooms[3].sell(0);
            for (int how = RISES; how <= LOST; how++) {
                due.is("how it is, kind " + kind, rooms[how].told(0, 1), how);
                due.is("keeps, kind " + kind + ", how " + how, rooms[how].ask(0, KEEPS, 0), want[kind][0]);
                due.is("glaze, kind " + kind + ", how " + how, rooms[how].ask(0, GLAZE, 0), want[kind][1]);
            }
        }
    }

    /** Promises 3, 4: "THE TRACE is empty ahead of it, if it is not BAD." */
    private static void traceIsEmptyAheadOfAnAsk() {
        DoughRoom x = new DoughRoom();
        traceIs("ahead of any ask", x);
        due.is("a BAD ask", x.ask(0, NEED, 0), BAD);
        traceIs("after a BAD ask alone", x);
        x.batch(BLACK, 1);
        x.batch(DOUGH, 1);
        x.ask(0, KEEPS, 0);
        traceIs("the longest", x, 42, 33, 32, 31, 13, 12, 11, 3, 2, 1);
        x.ask(0, KEEPS, 0);
        traceIs("the longest again", x, 42, 33, 32, 31, 13, 12, 11, 3, 2, 1);
        int[][] bad = {{-1, 0, 0}, {2, 0, 0}, {2, 4, 0}, {0, -1, 0}, {0, 6, 0}, {0, 0, -1}, {0, 0, 61},
            {0, 2, -1}, {0, 2, 401}};
        for (int[] b : bad) {
            due.is("a BAD ask", x.ask(b[0], b[1], b[2]), BAD);
            traceIs("after a BAD ask", x, 42, 33, 32, 31, 13, 12, 11, 3, 2, 1);
        }
        x.ask(1, RISE, 0);
        traceIs("the shortest", x, 1);
        due.is("a NO ask of KEEPS", x.ask(1, KEEPS, 0), NO);
        traceIs("after a NO", x);
        due.is("a BAD ask", x.ask(0, 6, 0), BAD);
        traceIs("after a NO and a BAD", x);
        x.ask(0, NEED, 0);
        traceIs("after one that is answered", x, 13, 12, 11, 3, 2, 1);
        due.is("a NO ask of GLAZE", x.ask(0, GLAZE, 0), NO);
        traceIs("after a NO", x);
    }

    /** Promise 4: "Number i of THE TRACE .. NONE." */
    private static void traceEndsBehindTheLastBody() {
        int[][] lengths = {
            {1, 1, 1, 1, 0, 0}, {1, 2, 1, 1, 0, 0}, {2, 2, 1, 1, 3, 0}, {2, 5, 1, 2, 6, 0},
            {3, 6, 2, 9, 10, 0}, {1, 1, 2, 1, 0, 2}, {2, 1, 2, 2, 0, 3},
        };
        int[][] last = {
            {1, 11, 21, 31, NONE, NONE}, {1, 11, 21, 31, NONE, NONE}, {1, 11, 21, 31, 11, NONE},
            {1, 1, 21, 31, 1, NONE}, {1, 1, 21, 1, 1, NONE}, {1, 11, 21, 31, NONE, 31},
            {1, 11, 21, 31, NONE, 21},
        };
        for (int kind = 0; kind < KINDS; kind++) {
            DoughRoom x = new DoughRoom();
            x.batch(kind, 1);
            for (int what = 0; what <= GLAZE; what++) {
                String of = ", kind " + kind + ", what " + what;
                x.ask(0, what, 0);
                due.is("the last" + of, x.trace(lengths[kind][what] - 1), last[kind][what]);
                due.is("behind the last" + of, x.trace(lengths[kind][what]), NONE);
                due.is("ahead of the first" + of, x.trace(-1), NONE);
                due.is("trace(MIN)" + of, x.trace(MIN), NONE);
                due.is("trace(MAX)" + of, x.trace(MAX), NONE);
            }
        }
    }

    /** Promise 4: "(No other call leaves anything there.)", though other calls go through BODIES too. */
    private static void noOtherCallLeavesAnything() {
        for (int kind = 0; kind < KINDS; kind++) {
            for (int before = 0; before < 3; before++) {
                DoughRoom x = new DoughRoom();
                x.batch(kind, 1);
                if (before == 1) {
                    x.ask(0, kind >= SWEET ? KEEPS : GLAZE, 0);
                }
                if (before == 2) {
                    x.ask(0, BROWN, 0);
                }
                int[] brown = {21};
                int[] deeper = {kind == BLACK ? 22 : 23, 21};
                int[] want = before < 2 ? new int[0] : kind >= BLACK ? deeper : brown;
                String when = "kind " + kind + ", before " + before;
                x.room(WARMTH_OF_ONE[kind]);
                x.bake(0, 0);
                traceIs(when + ", bake refused", x, want);
                pass(x, NEED_OF_MASS_1[kind]);
                traceIs(when + ", rising", x, want);
                x.bake(0, 0);
                traceIs(when + ", bake", x, want);
                x.heat(0, HEAT_OF_ONE[kind]);
                pass(x, 40);
                traceIs(when + ", browning", x, want);
                x.out(0);
                x.day();
                traceIs(when + ", day", x, want);
                x.sell(0);
                x.told(0, 6);
                x.count(7);
                due.is(when + ", it is sold", x.told(0, 1), SOLD);
                traceIs(when + ", sell", x, want);
            }
        }
    }

    /** Promise 5: "The ROOM's warmth becomes w (0 .. 60): what it was." */
    private static void roomIsZeroTo60() {
        DoughRoom x = new DoughRoom();
        due.is("room(60)", x.room(60), 20);
        for (int w : new int[] {MIN, -20, -1, 61, 400, MAX}) {
            due.is("room(" + w + ")", x.room(w), BAD);
        }
        due.is("room(0)", x.room(0), 60);
        for (int w : new int[] {MIN, -20, -1, 61, 400, MAX}) {
            due.is("room(" + w + ")", x.room(w), BAD);
        }
        due.is("room(1)", x.room(1), 0);
        due.is("room(59)", x.room(59), 1);
        due.is("room(20)", x.room(20), 59);

        DoughRoom y = new DoughRoom();
        y.batch(BUTTER, 500);
        y.room(60);
        y.minutes(1);
        due.is("it rises at 60", y.told(0, 2), 21);
        y.room(0);
        y.minutes(1);
        due.is("it rises at 0", y.told(0, 2), 21);
    }

    /** Promise 6: "An OVEN's heat becomes h (0 .. 400): what it was." */
    private static void heatIsZeroTo400() {
        for (int oven = 0; oven < 3; oven++) {
            DoughRoom x = new DoughRoom();
            due.is("heat(" + oven + ", 400)", x.heat(oven, 400), 0);
            for (int h : new int[] {MIN, -50, -1, 401, 450, MAX}) {
                due.is("heat(" + oven + ", " + h + ")", x.heat(oven, h), BAD);
            }
            due.is("heat(" + oven + ", 0)", x.heat(oven, 0), 400);
            for (int h : new int[] {MIN, -50, -1, 401, 450, MAX}) {
                due.is("heat(" + oven + ", " + h + ")", x.heat(oven, h), BAD);
            }
            due.is("heat(" + oven + ", 1)", x.heat(oven, 1), 0);
            due.is("heat(" + oven + ", 399)", x.heat(oven, 399), 1);
            for (int other = 0; other < 3; other++) {
                due.is("heat of oven " + other, x.heat(other, 7), other == oven ? 399 : 0);
            }
        }
    }

    /** Promises 6, 8: "OVENS 0 .. 2". */
    private static void ovensAreZeroTo2() {
        DoughRoom x = ready(1, 1, 1);
        for (int oven : new int[] {MIN, -3, -1, 3, 4, MAX}) {
            due.is("heat(" + oven + ", 0)", x.heat(oven, 0), BAD);
            due.is("bake(0, " + oven + ")", x.bake(0, oven), BAD);
        }
        for (int oven = 0; oven < 3; oven++) {
            x.heat(oven, 100 + 50 * oven);
            due.is("bake in oven " + oven, x.bake(oven, oven), 1);
        }
        x.minutes(1);
        for (int oven = 0; oven < 3; oven++) {
            due.is("it is in oven " + oven, x.told(oven, 4), oven);
            due.is("it browns by oven " + oven, x.told(oven, 3), 2 + oven);
        }
    }

    // Promises 7 to 13

    /** Promise 7: "n (1 .. 200) MINUTES go". */
    private static void minutesAreOneTo200() {
        DoughRoom x = risenBy(SOUR, 500, 0);
        due.is("minutes(1)", x.minutes(1), 0);
        due.is("one went", x.told(0, 2), 1);
        due.is("minutes(200)", x.minutes(200), 0);
        due.is("200 more went", x.told(0, 2), 201);
        for (int n : new int[] {MIN, -200, -1, 0, 201, 202, MAX}) {
            due.is("minutes(" + n + ")", x.minutes(n), BAD);
            due.is("none went", x.told(0, 2), 201);
        }
        due.is("minutes(199)", x.minutes(199), 0);
        due.is("199 more went", x.told(0, 2), 400);
    }

    /** Promise 7: "how many BATCHES were LOST by that." */
    private static void minutesCountTheLost() {
        DoughRoom all = roomOf(40);
        due.is("none of 40", all.minutes(40), 0);
        due.is("all of 40", all.minutes(1), 40);
        due.is("none is left", all.minutes(200), 0);

        DoughRoom both = ready(1, 1, 1, 1, 1);
        both.heat(2, 400);
        both.bake(0, 2);
        both.bake(1, 2);
        both.bake(2, 1);
        both.room(4);
        due.is("two burn, two fall, one bakes on", both.minutes(200), 4);
        due.is("that one", both.told(2, 1), IN_OVEN);
        due.is("none more", both.minutes(200), 0);
        due.is("an empty room", new DoughRoom().minutes(1), 0);
    }

    /** Promise 8: "A BATCH comes IN an OVEN: the MASS in it then." */
    private static void bakeAnswersTheMassThen() {
        DoughRoom x = ready(1, 500, 299, 7);
        due.is("in an empty oven", x.bake(0, 0), 1);
        due.is("501", x.bake(1, 0), 501);
        due.is("800", x.bake(2, 0), 800);
        due.is("in another", x.bake(3, 1), 7);
        for (int batch : new int[] {MIN, -1, 4, 39, 40, 41, MAX}) {
            due.is("bake(" + batch + ", 2)", x.bake(batch, 2), BAD);
        }
    }

    /** Promise 8: "NO: it does not RISE, or has not RISEN by its NEED". */
    private static void bakeOnlyWhatRises() {
        for (int oven = 0; oven < 3; oven++) {
            DoughRoom in = brownedBy(DOUGH, 1, 0);
            due.is("one that is in", in.bake(0, oven), NO);
            due.is("it is in oven 0 still", in.told(0, 4), 0);
            DoughRoom sold = done(DOUGH, 1);
            due.is("one that is done", sold.bake(0, oven), NO);
            sold.sell(0);
            due.is("one that is sold", sold.bake(0, oven), NO);
            due.is("one that fell", risenBy(DOUGH, 1, 201).bake(0, oven), NO);
            due.is("one that burnt", brownedBy(DOUGH, 1, 101).bake(0, oven), NO);
            due.is("one that has not risen", risenBy(DOUGH, 1, 99).bake(0, oven), NO);
        }
    }

    /** Promise 9: "NO: it is IN none." */
    private static void outOnlyWhatIsIn() {
        due.is("one that rises", risenBy(DOUGH, 1, 100).out(0), NO);
        DoughRoom x = done(DOUGH, 1);
        due.is("one that is done", x.out(0), NO);
        x.sell(0);
        due.is("one that is sold", x.out(0), NO);
        due.is("one that fell", risenBy(DOUGH, 1, 201).out(0), NO);
        DoughRoom y = brownedBy(DOUGH, 1, 39);
        y.out(0);
        due.is("one that came out lost", y.out(0), NO);
        for (int batch : new int[] {MIN, -1, 1, 39, 40, 41, MAX}) {
            due.is("out(" + batch + ")", x.out(batch), BAD);
        }
    }

    /** Promise 10: "NO: it is not DONE." */
    private static void sellOnlyWhatIsDone() {
        due.is("one that rises", risenBy(DOUGH, 1, 100).sell(0), NO);
        due.is("one that is in", brownedBy(DOUGH, 1, 40).sell(0), NO);
        due.is("one that fell", risenBy(DOUGH, 1, 201).sell(0), NO);
        DoughRoom x = done(BUTTER, 500);
        due.is("the dearest butter", x.sell(0), 245);
        due.is("one that is sold", x.sell(0), NO);
        due.is("the till", x.count(7), 245);
        for (int batch : new int[] {MIN, -1, 1, 39, 40, 41, MAX}) {
            due.is("sell(" + batch + ")", x.sell(batch), BAD);
        }
        due.is("the dearest of all", done(BLACK, 500).sell(0), 352);
    }

    /** Promise 11: "A DAY goes: how many were LOST by that." */
    private static void dayCountsTheLost() {
        DoughRoom x = roomOf(40);
        x.minutes(20);
        x.heat(0, 400);
        for (int b = 0; b < 40; b++) {
            x.bake(b, 0);
        }
        x.minutes(5);
        due.is("none is done", x.day(), 0);
        for (int b = 0; b < 40; b++) {
            x.out(b);
        }
        due.is("all are done", x.count(3), 40);
        due.is("all keep", x.day(), 0);
        due.is("all are lost", x.day(), 40);
        due.is("none is left", x.day(), 0);
        due.is("40 are lost", x.count(5), 40);
        due.is("four days went", x.count(6), 4);
    }

    /**
     * Promise 11: "FULL: 10000 went already." That many are more calls than the document speaks of,
     * and it is kept all the same. What is DONE is not LOST by a DAY that does not go.
     */
    private static void tenThousandDays() {
        DoughRoom x = brownedBy(DOUGH, 1, 40);
        for (int day = 0; day < 9998; day++) {
            x.day();
        }
        due.is("the 9999th", x.day(), 0);
        x.out(0);
        due.is("the 10000th", x.day(), 0);
        due.is("days", x.count(6), 10000);
        due.is("one more", x.day(), FULL);
        due.is("and one more", x.day(), FULL);
        due.is("days still", x.count(6), 10000);
        due.is("it is done still", x.told(0, 1), DONE);
        due.is("since day 9999", x.told(0, 5), 9999);
        due.is("it is sold for a day less", x.sell(0), 9);
    }

    /** Promise 12: "Of a BATCH: 0 KIND .. 7 GLAZED. BAD." */
    private static void toldOfEachWhat() {
        DoughRoom x = roomOf(40);
        int[] want = {BAD, DOUGH, RISES, 0, 0, NONE, NONE, 0, 0, BAD};
        for (int batch : new int[] {0, 1, 38, 39}) {
            for (int what = -1; what <= 8; what++) {
                due.is("told(" + batch + ", " + what + ")", x.told(batch, what), want[what + 1]);
            }
            due.is("told(" + batch + ", MIN)", x.told(batch, MIN), BAD);
            due.is("told(" + batch + ", MAX)", x.told(batch, MAX), BAD);
        }
        for (int batch : new int[] {MIN, -40, -1, 40, 41, MAX}) {
            for (int what = -1; what <= 8; what++) {
                due.is("told(" + batch + ", " + what + ")", x.told(batch, what), BAD);
            }
        }
    }

    /** Promise 12: "4 the OVEN (NONE: IN none), 5 since which DAY it is DONE (NONE: it is not)". */
    private static void toldOvenAndDay() {
        for (int oven = 0; oven < 3; oven++) {
            DoughRoom x = ready(1, 1);
            x.day();
            due.is("rises: oven", x.told(0, 4), NONE);
            due.is("rises: day", x.told(0, 5), NONE);
            x.heat(oven, 400);
            x.bake(0, oven);
            x.bake(1, oven);
            due.is("in: oven", x.told(0, 4), oven);
            due.is("in: day", x.told(0, 5), NONE);
            x.minutes(5);
            x.out(0);
            due.is("done: oven", x.told(0, 4), NONE);
            due.is("done: day", x.told(0, 5), 1);
            x.day();
            due.is("done a day later: day", x.told(0, 5), 1);
            x.sell(0);
            due.is("sold: oven", x.told(0, 4), NONE);
            due.is("sold: day", x.told(0, 5), NONE);
            x.minutes(200);
            due.is("burnt: oven", x.told(1, 4), NONE);
            due.is("burnt: day", x.told(1, 5), NONE);
        }
    }

    /** Promise 13: "0 BATCHES .. 7 the TILL. BAD." */
    private static void countOfEachWhat() {
        DoughRoom x = done(DOUGH, 1);
        int[] done = {BAD, 1, 0, 0, 1, 0, 0, 0, 0, BAD};
        int[] sold = {BAD, 1, 0, 0, 0, 1, 0, 1, 9, BAD};
        for (int what = -1; what <= 8; what++) {
            due.is("done, count(" + what + ")", x.count(what), done[what + 1]);
        }
        x.day();
        x.sell(0);
        for (int what = -1; what <= 8; what++) {
            due.is("sold, count(" + what + ")", x.count(what), sold[what + 1]);
        }
        due.is("count(MIN)", x.count(MIN), BAD);
        due.is("count(MAX)", x.count(MAX), BAD);
    }

    /** Promise 13, in each of the ways that all of 40 BATCHES, or none, can be. */
    private static void countWhenEmptyAndWhenFull() {
        DoughRoom x = new DoughRoom();
        countsAre("empty", x, 0, 0, 0, 0, 0, 0);
        for (int b = 0; b < 40; b++) {
            x.batch(DOUGH, 1);
        }
        countsAre("all rise", x, 40, 40, 0, 0, 0, 0);
        x.minutes(20);
        x.heat(0, 400);
        for (int b = 0; b < 40; b++) {
            x.bake(b, 0);
        }
        countsAre("all are in", x, 40, 0, 40, 0, 0, 0);
        x.minutes(5);
        for (int b = 0; b < 40; b++) {
            x.out(b);
        }
        countsAre("all are done", x, 40, 0, 0, 40, 0, 0);
        for (int b = 0; b < 40; b++) {
            x.sell(b);
        }
        countsAre("all are sold", x, 40, 0, 0, 0, 40, 0);
        due.is("the till", x.count(7), 400);

        DoughRoom y = roomOf(40);
        y.minutes(200);
        countsAre("all are lost", y, 40, 0, 0, 0, 0, 40);
        due.is("the till", y.count(7), 0);
    }

    private static void countsAre(String when, DoughRoom x, int... want) {
        for (int what = 0; what < want.length; what++) {
            due.is(when + ", count(" + what + ")", x.count(what), want[what]);
        }
    }
}
