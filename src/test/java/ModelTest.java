import java.util.Arrays;
import java.util.Random;

/** Many runs of calls, the same every time, whose answers are compared with PlainModel's. */
public final class ModelTest {
    private static final int RUNS = 3000;
    private static final int CALLS = 512;
    private static final int[] ODD = {Integer.MIN_VALUE, -41, -1, 7, 8, 40, 61, 401, 501, Integer.MAX_VALUE};

    private static final Due due = new Due();

    private final Random random;
    private final DoughRoom x = new DoughRoom();
    private final PlainModel model = new PlainModel();
    private final int run;

    /** How often what matters came up, so that the runs can't quietly miss it. */
    private static final int[] sold = new int[7], spoilt = new int[7];
    private static int fallen, burnt, ovenFull, roomFull;

    private ModelTest(int run) {
        this.run = run;
        this.random = new Random(run);
    }

    public static void main(String[] args) {
        for (int run = 0; run < RUNS; run++) {
            new ModelTest(run).go();
        }
        for (int kind = 0; kind < 7; kind++) {
            due.isTrue("some of kind " + kind + " were sold", sold[kind] > 100);
            due.isTrue("some of kind " + kind + " were kept too long", spoilt[kind] > 100);
        }
        due.isTrue("some fell", fallen > 100);
        due.isTrue("some burnt", burnt > 100);
        due.isTrue("ovens were full", ovenFull > 100);
        due.isTrue("the room was full", roomFull > 100);
        System.out.println("sold " + Arrays.toString(sold) + ", kept too long " + Arrays.toString(spoilt)
                + ", fell " + fallen + ", burnt " + burnt + ", oven full " + ovenFull + ", room full " + roomFull);
        due.end();
    }

    private void go() {
        int calls = 0;
        int batches = 1 + random.nextInt(44);
        for (int b = 0; b < batches; b++, calls++) {
            batch(random.nextInt(7), 1 + random.nextInt(500));
        }
        while (calls < CALLS - 60) {
            calls += step();
        }
        for (; calls < CALLS; calls++) {
            look();
        }
    }

    /** An argument of 0 .. most, and at times one that is beside that. */
    private int upTo(int most) {
        int odd = random.nextInt(200);
        return odd < ODD.length ? ODD[odd] : random.nextInt(most + 1);
    }

    private int anyBatch() {
        return upTo(Math.max(1, model.count(0)) - 1);
    }

    /** Mostly a batch that is so (0 RISES, 1 IN an OVEN, 2 DONE), as any one seldom is. */
    private int batchThatIs(int how) {
        int batches = model.count(0);
        if (batches == 0 || random.nextInt(8) == 0) {
            return anyBatch();
        }
        int first = random.nextInt(batches);
        for (int i = 0; i < batches; i++) {
            int b = (first + i) % batches;
            if (model.told(b, 1) == how && isReady(b, how)) {
                return b;
            }
        }
        return anyBatch();
    }

    /** Whether a next step would go well; of those that bake, some are not waited for. */
    private boolean isReady(int b, int how) {
        switch (how) {
            case 0: return model.told(b, 2) >= 120;
            case 1: return model.told(b, 3) >= 40 || random.nextInt(20) == 0;
            default: return true;
        }
    }

    /** In the other runs things lie about until they keep no longer. */
    private boolean sellsOften() {
        return run % 2 == 0;
    }

    private int step() {
        switch (random.nextInt(14)) {
            case 0: batch(upTo(6), upTo(500)); return 1;
            case 1: return askAndTrace();
            case 2: case 3: return bakeSome();
            case 4: room(upTo(60)); return 1;
            case 5: heat(upTo(2), upTo(400)); return 1;
            case 6: case 7: minutes(random.nextInt(20) == 0 ? upTo(200) : upTo(12)); return 1;
            case 8: return bakeSome();
            case 9: case 10: return outSome();
            case 11: return sellsOften() ? sellSome() : dayGoes();
            case 12: return dayGoes();
            default: look(); return 1;
        }
    }

    private void batch(int kind, int mass) {
        int answer = x.batch(kind, mass);
        roomFull += answer == DoughRoom.FULL ? 1 : 0;
        is("batch(" + kind + ", " + mass + ")", answer, model.batch(kind, mass));
    }

    private int askAndTrace() {
        int b = anyBatch(), what = upTo(5), w = upTo(what == 2 ? 400 : 60);
        is("ask(" + b + ", " + what + ", " + w + ")", x.ask(b, what, w), model.ask(b, what, w));
        for (int i = 0; i < 11; i++) {
            is("trace(" + i + ")", x.trace(i), model.trace(i));
        }
        return 12;
    }

    private void room(int w) {
        is("room(" + w + ")", x.room(w), model.room(w));
    }

    private void heat(int oven, int h) {
        is("heat(" + oven + ", " + h + ")", x.heat(oven, h), model.heat(oven, h));
    }

    private void minutes(int n) {
        int rose = model.count(1), baked = model.count(2);
        is("minutes(" + n + ")", x.minutes(n), model.minutes(n));
        fallen += rose - model.count(1);
        burnt += baked - model.count(2);
    }

    private int bakeSome() {
        for (int i = 0; i < 6; i++) {
            int b = batchThatIs(0), oven = upTo(2);
            int answer = x.bake(b, oven);
            ovenFull += answer == DoughRoom.FULL ? 1 : 0;
            is("bake(" + b + ", " + oven + ")", answer, model.bake(b, oven));
        }
        return 6;
    }

    private int outSome() {
        for (int i = 0; i < 3; i++) {
            int b = batchThatIs(1);
            is("out(" + b + ")", x.out(b), model.out(b));
        }
        return 3;
    }

    private int sellSome() {
        for (int i = 0; i < 2; i++) {
            int b = batchThatIs(2);
            int answer = x.sell(b);
            if (answer > 0) sold[model.told(b, 0)]++;
            is("sell(" + b + ")", answer, model.sell(b));
        }
        return 2;
    }

    private int dayGoes() {
        int[] how = new int[40];
        for (int b = 0; b < model.count(0); b++) {
            how[b] = model.told(b, 1);
        }
        is("day()", x.day(), model.day());
        for (int b = 0; b < model.count(0); b++) {
            if (how[b] == 2 && model.told(b, 1) == 4) spoilt[model.told(b, 0)]++;
        }
        return 1;
    }

    private void look() {
        if (random.nextInt(4) == 0) {
            int what = upTo(7);
            is("count(" + what + ")", x.count(what), model.count(what));
        } else {
            int b = anyBatch(), what = upTo(7);
            is("told(" + b + ", " + what + ")", x.told(b, what), model.told(b, what));
        }
    }

    private void is(String call, int got, int want) {
        due.is("run " + run + ": " + call, got, want);
    }
}
