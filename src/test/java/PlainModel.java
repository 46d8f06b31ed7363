import java.util.ArrayList;
import java.util.List;

/**
 * The document put into code a second time, by tables and by the letter, so that the two can be
 * compared: bodies are looked up by kind, and minutes go one by one over all batches.
 */
final class PlainModel {
    private static final int NONE = -1, BAD = -2, NO = -3, FULL = -4;
    private static final int NOWHERE = -1;
    private static final int[] ABOVE = {NOWHERE, 0, 1, 2, 3, 0, 5};

    /** For each question, for each kind: the number of the body told for it, or 0. */
    private static final int[][] TOLD = {
        {1, 0, 2, 0, 3, 0, 4},
        {11, 12, 0, 13, 0, 0, 0},
        {21, 0, 0, 0, 22, 23, 0},
        {31, 0, 0, 32, 33, 0, 34},
        {0, 0, 41, 0, 42, 0, 0},
        {0, 0, 0, 0, 0, 51, 52},
    };

    private static final class Batch {
        int kind, mass, how, risen, browned, oven = NONE, since = NONE;
    }

    private final List<Batch> batches = new ArrayList<>();
    private final int[] heats = new int[3];
    private List<Integer> trace = new ArrayList<>();
    private List<Integer> left = new ArrayList<>();
    private int warmth = 20, days, till;

    /** What the batch answers by the body told for that kind or the nearest one above. */
    private int answer(Batch b, int what, int kind, int w) {
        int at = kind;
        while (at != NOWHERE && TOLD[what][at] == 0) {
            at = ABOVE[at];
        }
        if (at == NOWHERE) {
            return NO;
        }
        int above = ABOVE[at];
        left.add(TOLD[what][at]);
        switch (TOLD[what][at]) {
            case 1: return w / 4;
            case 2: return answer(b, 0, above, w) / 2 + 1;
            case 3: return answer(b, 0, above, w) - 1;
            case 4: return answer(b, 0, above, w) + w / 10;
            case 11: return 100 + b.mass / 10;
            case 12: return answer(b, 1, above, w) + 50;
            case 13: return answer(b, 1, above, w) + own(b, 0, 20);
            case 21: return w / 50;
            case 22: return (answer(b, 2, above, w) + 2) / 3;
            case 23: return answer(b, 2, above, w) + 1;
            case 31: return 10 + b.mass / 5;
            case 32: return answer(b, 3, above, w) + 40;
            case 33: return answer(b, 3, above, w) + own(b, 1, 0);
            case 34: return 2 * answer(b, 3, above, w);
            case 41: return 1 + own(b, 1, 0) / 100;
            case 42: return own(b, 3, 0) / 50 + 2;
            case 51: return own(b, 3, 0) / 10 + 5;
            case 52: return own(b, 2, 200) + 20;
            default: throw new IllegalStateException("no such body");
        }
    }

    private int own(Batch b, int what, int w) {
        return answer(b, what, b.kind, w);
    }

    private boolean isBatch(int batch) {
        return 0 <= batch && batch < batches.size();
    }

    int batch(int kind, int mass) {
        if (kind < 0 || kind > 6 || mass < 1 || mass > 500) return BAD;
        if (batches.size() == 40) return FULL;
        Batch b = new Batch();
        b.kind = kind;
        b.mass = mass;
        batches.add(b);
        return batches.size() - 1;
    }

    int ask(int batch, int what, int w) {
        if (!isBatch(batch) || what < 0 || what > 5) return BAD;
        if (what == 0 && (w < 0 || w > 60)) return BAD;
        if (what == 2 && (w < 0 || w > 400)) return BAD;
        left = new ArrayList<>();
        int answer = own(batches.get(batch), what, w);
        trace = left;
        return answer;
    }

    int trace(int i) {
        return 0 <= i && i < trace.size() ? trace.get(i) : NONE;
    }

    int room(int w) {
        if (w < 0 || w > 60) return BAD;
        int was = warmth;
        warmth = w;
        return was;
    }

    int heat(int oven, int h) {
        if (oven < 0 || oven > 2 || h < 0 || h > 400) return BAD;
        int was = heats[oven];
        heats[oven] = h;
        return was;
    }

    int minutes(int n) {
        if (n < 1 || n > 200) return BAD;
        left = new ArrayList<>();
        int lost = 0;
        for (int minute = 0; minute < n; minute++) {
            for (Batch b : batches) {
                if (b.how == 0) {
                    b.risen += own(b, 0, warmth);
                    if (b.risen > 2 * own(b, 1, 0)) {
                        b.how = 4;
                        lost++;
                    }
                }
            }
            for (Batch b : batches) {
                if (b.how == 1) {
                    b.browned += own(b, 2, heats[b.oven]);
                    if (b.browned > 100) {
                        b.how = 4;
                        b.oven = NONE;
                        lost++;
                    }
                }
            }
            left.clear();
        }
        return lost;
    }

    int bake(int batch, int oven) {
        if (!isBatch(batch) || oven < 0 || oven > 2) return BAD;
        left = new ArrayList<>();
        Batch in = batches.get(batch);
        if (in.how != 0 || in.risen < own(in, 1, 0)) return NO;
        int mass = in.mass;
        for (Batch b : batches) {
            if (b.oven == oven) mass += b.mass;
        }
        if (mass > 800) return FULL;
        in.how = 1;
        in.oven = oven;
        return mass;
    }

    int out(int batch) {
        if (!isBatch(batch)) return BAD;
        Batch b = batches.get(batch);
        if (b.oven == NONE) return NO;
        b.oven = NONE;
        b.how = b.browned >= 40 ? 2 : 4;
        b.since = b.how == 2 ? days : NONE;
        return b.browned;
    }

    int sell(int batch) {
        if (!isBatch(batch)) return BAD;
        Batch b = batches.get(batch);
        if (b.how != 2) return NO;
        left = new ArrayList<>();
        int worth = own(b, 3, 0) + (told(batch, 7) == 1 ? own(b, 5, 0) : 0) - (days - b.since);
        int takings = worth < 1 ? 1 : worth;
        b.how = 3;
        b.since = NONE;
        till += takings;
        return takings;
    }

    int day() {
        if (days == 10000) return FULL;
        left = new ArrayList<>();
        int lost = 0;
        for (int i = 0; i < batches.size(); i++) {
            Batch b = batches.get(i);
            int keeps = told(i, 6) == 1 ? own(b, 4, 0) : 1;
            if (b.how == 2 && days - b.since >= keeps) {
                b.how = 4;
                b.since = NONE;
                lost++;
            }
        }
        days++;
        return lost;
    }

    int told(int batch, int what) {
        if (!isBatch(batch) || what < 0 || what > 7) return BAD;
        Batch b = batches.get(batch);
        boolean keeping = b.kind == 2 || b.kind == 3 || b.kind == 4;
        boolean glazed = b.kind == 5 || b.kind == 6;
        int[] answers = {b.kind, b.how, b.risen, b.browned, b.oven, b.since, keeping ? 1 : 0, glazed ? 1 : 0};
        return answers[what];
    }

    int count(int what) {
        if (what < 0 || what > 7) return BAD;
        int[] answers = {batches.size(), 0, 0, 0, 0, 0, days, till};
        for (Batch b : batches) {
            answers[1 + b.how]++;
        }
        return answers[what];
    }
}
