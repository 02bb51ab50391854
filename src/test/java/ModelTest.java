import java.util.Random;

/** All promises: the class and the model are asked the same, over many runs of calls by a fixed seed. */
public final class ModelTest {
    private static final int RUNS = 240;
    private static final int CALLS = 512;
    private static final int MOST_AT_ONCE = 40;
    private static final String[] WORDS = {"frame", "room", "clock", "table", "wide", "drop", "swap"};
    private static final int[] NUMBERS = {3, 2, 2, 1, 1, 1, 3};
    private static final Due due = new Due();

    private final Random random;
    private final StreamWeave x = new StreamWeave();
    private final Model model = new Model();
    private final int gap;
    private final int programmes;
    private int calls = 0;

    private ModelTest(int seed) {
        random = new Random(seed);
        gap = 1 + seed % 15;
        programmes = 1 + seed % 4;
    }

    public static void main(String[] args) {
        for (int seed = 0; seed < RUNS; seed++) {
            due.about("run " + seed);
            new ModelTest(seed).run();
        }
        due.end();
    }

    private void run() {
        // What an object answers behind its last call is free, so none is asked there.
        while (calls <= CALLS - MOST_AT_ONCE) {
            if (below(3) == 0) {
                askWidely();
            } else {
                sayLine();
            }
        }
    }

    private void same(String call, int got, int want) {
        calls++;
        due.is("call " + calls + ", " + call, got, want);
    }

    private int below(int bound) {
        return random.nextInt(bound);
    }

    /** Mostly within 0 to greatest, at times at the edges outside or far away. */
    private int about(int greatest) {
        int dice = below(40);
        if (dice == 0) {
            return -1;
        }
        if (dice == 1) {
            return greatest + 1;
        }
        if (dice == 2) {
            return random.nextInt();
        }
        return below(greatest + 1);
    }

    private String number(int greatest) {
        int n = below(25) == 0 ? below(100) : below(greatest + 1);
        return n < 10 && below(6) == 0 ? " 0" + n : " " + n;
    }

    private String frameNumbers() {
        int p = below(programmes);
        int last = Math.max(gap, model.told(p, 3));
        int next = last + 1 + below(gap);
        if (below(12) == 0) {
            next = last - below(2);
        }
        return " " + p + number(9) + " " + Math.max(0, Math.min(99, next));
    }

    private String lineText() {
        int w = below(3) == 0 ? below(WORDS.length) : 0;
        String text = WORDS[w];
        // Drops are rare, so that programmes come to be full.
        if (w == 5 && below(4) != 0) {
            w = 0;
            text = "frame";
        }
        if (w == 0) {
            text += frameNumbers();
        } else {
            int[] greatest = w == 1 ? new int[] {3, 40} : w == 2 ? new int[] {3, 50} : w == 6
                ? new int[] {3, 3, 99} : new int[] {w == 3 ? 50 : w == 4 ? 4 : 3};
            for (int n = 0; n < NUMBERS[w]; n++) {
                text += number(greatest[n]);
            }
        }
        return below(10) == 0 ? spoiled(text) : text;
    }

    private String spoiled(String text) {
        int place = below(text.length());
        String signs = " 0159aefrmox~";
        char sign = signs.charAt(below(signs.length()));
        return switch (below(5)) {
            case 0 -> text.substring(0, place);
            case 1 -> text.substring(0, place) + sign + text.substring(place);
            case 2 -> text.substring(0, place) + text.substring(place + 1);
            case 3 -> text + sign + sign;
            default -> text.substring(0, place) + sign + text.substring(place + 1);
        };
    }

    private void sayLine() {
        String text = lineText();
        for (int k = 0; k < text.length(); k++) {
            same("say", x.say(text.charAt(k)), model.say(text.charAt(k)));
            if (below(30) == 0) {
                same("fault()", x.fault(), model.fault());
            }
        }
        if (below(20) == 0) {
            int sign = about(200);
            same("say(" + sign + ")", x.say(sign), model.say(sign));
        }
        same("fault()", x.fault(), model.fault());
        int want = model.line();
        same("line() of " + text, x.line(), want);
        if (want < 0 && below(4) != 0) {
            same("wipe()", x.wipe(), model.wipe());
        }
    }

    private void askWidely() {
        for (int k = below(12); k >= 0; k--) {
            askOnce();
        }
    }

    private void askOnce() {
        int p = about(3);
        int f = about(Math.max(0, model.told(p & 3, 2)));
        int tick = below(3) == 0 ? about(99) : below(Math.max(1, model.told(p & 3, 3)));
        int i = about(model.count(0) - 1);
        int k = about(14) - below(3);
        int what = about(7);
        switch (below(40)) {
            case 0 -> same("needs()", x.needs(), model.needs());
            case 1 -> same("room(" + p + ")", x.room(p), model.room(p));
            case 2 -> same("without(" + p + ")", x.without(p), model.without(p));
            case 3, 4 -> same("image(" + p + ")", x.image(p), model.image(p));
            case 5 -> same("restore(" + p + ")", x.restore(p), model.restore(p));
            case 6, 7, 8, 9 -> same("written(" + p + ", " + f + ", " + k + ")", x.written(p, f, k),
                model.written(p, f, k));
            case 10, 11, 12 -> same("told(" + p + ", " + what + ")", x.told(p, what), model.told(p, what));
            case 13, 14, 15, 16 -> same("held(" + p + ", " + tick + ")", x.held(p, tick), model.held(p, tick));
            case 17, 18, 19, 20, 21, 22 -> same("frame(" + p + ", " + f + ", " + what + ")", x.frame(p, f, what),
                model.frame(p, f, what));
            case 23, 24, 25 -> same("sent(" + what + ")", x.sent(what), model.sent(what));
            case 26, 27 -> same("most(" + p + ")", x.most(p), model.most(p));
            case 28, 29 -> same("count(" + what + ")", x.count(what), model.count(what));
            case 30 -> same("wipe()", x.wipe(), model.wipe());
            default -> same("packet(" + tick + ", " + i + ", " + what % 4 + ")", x.packet(tick, i, what % 4),
                model.packet(tick, i, what % 4));
        }
    }
}
