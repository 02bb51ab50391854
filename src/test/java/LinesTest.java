/** Promises 1 to 7: a new object, THE LINE, its FAULT, what lines do and what is told of it. */
public final class LinesTest {
    private static final Due due = new Due();

    public static void main(String[] args) {
        newObject();
        say();
        wipe();
        fault();
        lineAnswers();
        lineRefusals();
        lineOrderOfRefusals();
        swap();
        written();
        told();
        due.end();
    }

    private static void newObject() {
        due.about("1 a new object");
        StreamWeave x = new StreamWeave();
        for (int p = 0; p < 4; p++) {
            due.is("told(p, 0)", x.told(p, 0), 10);
            due.is("told(p, 1)", x.told(p, 1), 0);
            due.is("told(p, 2)", x.told(p, 2), 0);
            due.is("told(p, 3)", x.told(p, 3), StreamWeave.NONE);
            due.is("told(p, 4)", x.told(p, 4), 0);
            due.is("most(p)", x.most(p), 0);
            due.is("room(p)", x.room(p), 1);
            due.is("without(p)", x.without(p), 0);
        }
        due.is("count(0)", x.count(0), 1);
        due.is("count(1)", x.count(1), 20);
        due.is("count(2)", x.count(2), 0);
        due.is("count(3)", x.count(3), 0);
        due.is("count(4)", x.count(4), StreamWeave.NONE);
        due.is("count(5)", x.count(5), 0);
        due.is("fault()", x.fault(), 0);
        due.is("needs()", x.needs(), 1);
        due.is("restore(0)", x.restore(0), StreamWeave.STATE);
        due.is("restore(1)", x.restore(1), StreamWeave.STATE);
    }

    private static void say() {
        due.about("2 say");
        StreamWeave x = new StreamWeave();
        due.is("say(31)", x.say(31), StreamWeave.OUTSIDE);
        due.is("say(127)", x.say(127), StreamWeave.OUTSIDE);
        due.is("say(-1)", x.say(-1), StreamWeave.OUTSIDE);
        due.is("say(least)", x.say(Integer.MIN_VALUE), StreamWeave.OUTSIDE);
        due.is("say(greatest)", x.say(Integer.MAX_VALUE), StreamWeave.OUTSIDE);
        due.is("count(3)", x.count(3), 0);
        due.is("say(32)", x.say(32), 1);
        due.is("say(126)", x.say(126), 2);
        for (int k = 3; k <= 20; k++) {
            due.is("say(65)", x.say(65), k);
        }
        due.is("say(65) at 20", x.say(65), StreamWeave.FULL);
        due.is("say(31) at 20", x.say(31), StreamWeave.OUTSIDE);
        due.is("count(3)", x.count(3), 20);
    }

    private static void wipe() {
        due.about("3 wipe");
        StreamWeave x = new StreamWeave();
        due.is("wipe()", x.wipe(), 0);
        Due.type(x, "frame 0 1 1");
        due.is("wipe()", x.wipe(), 11);
        due.is("wipe()", x.wipe(), 0);
        due.is("count(3)", x.count(3), 0);
        due.is("count(2)", x.count(2), 0);
        for (int k = 0; k < 20; k++) {
            x.say('a');
        }
        due.is("wipe()", x.wipe(), 20);
        due.is("say", x.say('a'), 1);
    }

    private static void faultOf(String text, int want) {
        StreamWeave x = new StreamWeave();
        Due.type(x, text);
        due.is("fault() of '" + text + "'", x.fault(), want);
        due.is("fault() again of '" + text + "'", x.fault(), want);
        due.is("count(3) of '" + text + "'", x.count(3), text.length());
        due.is("count(4) of '" + text + "'", x.count(4), StreamWeave.NONE);
    }

    private static void fault() {
        due.about("5 fault");
        String[] whole = {"frame 0 1 1", "frame 00 01 99", "room 0 1", "room 99 99", "clock 3 50", "table 0",
            "table 07", "wide 4", "wide 99", "drop 3", "drop 03", "swap 0 1 1", "swap 00 00 00"};
        for (String text : whole) {
            faultOf(text, StreamWeave.NONE);
        }
        String[] parts = {"frame 0 1 1", "room 0 1", "clock 3 5", "table 0", "wide 4", "drop 3", "swap 0 1 1"};
        for (String text : parts) {
            for (int length = 0; length < text.length(); length++) {
                faultOf(text.substring(0, length), length);
                faultOf(text.substring(0, length) + "x", length);
                faultOf(text.substring(0, length) + "X0 1", length);
            }
            faultOf(text + " ", text.length());
            faultOf(text + "x", text.length());
            faultOf(text + "12", text.length() + 1);
        }
        faultOf(" frame 0 1 1", 0);
        faultOf("Frame 0 1 1", 0);
        faultOf("frame  0 1 1", 6);
        faultOf("frame 000 1 1", 8);
        faultOf("frame 00 111 1", 11);
        faultOf("frame 0 1 100", 12);
        faultOf("frame -1 1 1", 6);
        faultOf("frame 0 1 1 1", 11);
        faultOf("room 0", 6);
        faultOf("room 0 10 5", 9);
        faultOf("drops 1", 4);
        faultOf("frawe", 3);
        faultOf("sable 1", 1);
        faultOf("twap 1", 1);
        faultOf("clock 1 2/", 9);
        faultOf("clock 1 2:", 9);
        faultOf("00000000000000000000", 0);
        faultOf("frame 00 01 01      ", 14);
    }

    private static void lineAnswers() {
        due.about("4 line");
        StreamWeave x = new StreamWeave();
        due.is("frame", Due.line(x, "frame 2 9 1"), 0);
        due.is("frame", Due.line(x, "frame 02 01 99"), 1);
        due.is("frame", Due.line(x, "frame 0 5 50"), 0);
        due.is("count(3)", x.count(3), 0);
        due.is("fault()", x.fault(), 0);
        due.is("room", Due.line(x, "room 1 40"), 10);
        due.is("room", Due.line(x, "room 1 1"), 40);
        due.is("room of another", Due.line(x, "room 0 7"), 10);
        due.is("clock", Due.line(x, "clock 3 50"), 0);
        due.is("clock", Due.line(x, "clock 3 0"), 50);
        due.is("table", Due.line(x, "table 50"), 20);
        due.is("table", Due.line(x, "table 00"), 50);
        due.is("table", Due.line(x, "table 9"), 0);
        due.is("wide", Due.line(x, "wide 4"), 1);
        due.is("wide", Due.line(x, "wide 01"), 4);
        due.is("drop", Due.line(x, "drop 2"), 2);
        due.is("drop", Due.line(x, "drop 2"), 0);
        due.is("told(2, 2)", x.told(2, 2), 0);
        due.is("told(0, 2)", x.told(0, 2), 1);
        due.is("frame anew", Due.line(x, "frame 2 1 1"), 0);
    }

    private static void refused(StreamWeave x, String text, int want) {
        due.is(text, Due.line(x, text), want);
        due.is("count(3) behind " + text, x.count(3), text.length());
        due.is("line() again of " + text, x.line(), want);
    }

    private static void lineRefusals() {
        due.about("4 line");
        StreamWeave x = new StreamWeave();
        String[] outside = {"frame 4 1 1", "frame 0 0 1", "frame 0 10 1", "frame 0 1 0", "frame 99 1 1",
            "room 4 1", "room 0 0", "room 0 41", "clock 4 1", "clock 0 51", "table 51", "table 99", "wide 0",
            "wide 5", "drop 4", "drop 10", "swap 4 0 1", "swap 0 4 1", "swap 1 1 1", "swap 0 1 0", "swap 0 0 0"};
        for (String text : outside) {
            refused(x, text, StreamWeave.OUTSIDE);
        }
        due.is("count(2)", x.count(2), 0);
        due.is("count(0)", x.count(0), 1);
        due.is("count(1)", x.count(1), 20);
        due.is("count(4)", x.count(4), StreamWeave.NONE);
        due.is("told(0, 0)", x.told(0, 0), 10);
        due.is("told(0, 1)", x.told(0, 1), 0);
        refused(x, "frame 4 1 1 ", StreamWeave.FAULT);
        due.is("count(4)", x.count(4), 11);
        Due.line(x, "frame 1 3 40");
        due.is("count(4)", x.count(4), 11);
        refused(x, "frame 1 1 40", StreamWeave.STATE);
        refused(x, "frame 1 1 39", StreamWeave.STATE);
        due.is("frame", Due.line(x, "frame 1 1 41"), 1);
        due.is("frame of another", Due.line(x, "frame 2 1 1"), 0);
        due.is("told(1, 4)", x.told(1, 4), 4);
    }

    private static void lineOrderOfRefusals() {
        due.about("4 line, order");
        StreamWeave x = new StreamWeave();
        for (int f = 0; f < 10; f++) {
            due.is("frame", Due.line(x, "frame 0 1 " + (f + 11)), f);
        }
        refused(x, "frame 0 1 21", StreamWeave.FULL);
        refused(x, "frame 0 1 20", StreamWeave.STATE);
        refused(x, "frame 0 0 20", StreamWeave.OUTSIDE);
        refused(x, "frame 0 0 20x", StreamWeave.FAULT);
        due.is("told(0, 2)", x.told(0, 2), 10);
        due.is("told(0, 3)", x.told(0, 3), 20);
        due.is("count(4)", x.count(4), 12);
    }

    private static void swap() {
        due.about("4 line, swap");
        StreamWeave x = Due.woven("frame 0 1 10", "frame 0 2 20", "frame 0 3 30", "frame 1 4 19", "frame 1 5 20",
            "frame 1 6 21", "frame 1 7 22");
        due.is("swap", Due.line(x, "swap 0 1 20"), 4);
        int[] sizes = {1, 5, 6, 7};
        int[] dues = {10, 20, 21, 22};
        for (int f = 0; f < 4; f++) {
            due.is("frame(0, f, 0)", x.frame(0, f, 0), sizes[f]);
            due.is("frame(0, f, 1)", x.frame(0, f, 1), dues[f]);
        }
        due.is("told(1, 2)", x.told(1, 2), 4);
        due.is("told(1, 4)", x.told(1, 4), 22);
        due.is("swap behind all", Due.line(x, "swap 0 1 99"), 4);
        due.is("swap of none", Due.line(x, "swap 0 2 20"), 1);
        due.is("swap from 1 on", Due.line(x, "swap 2 1 1"), 4);
        due.is("swap to none", Due.line(x, "swap 2 3 1"), 0);
        StreamWeave y = new StreamWeave();
        for (int f = 0; f < 6; f++) {
            Due.line(y, "frame 0 1 " + (f + 1));
            Due.line(y, "frame 1 2 " + (f + 5));
        }
        due.is("swap", Due.line(y, "swap 0 1 5"), 10);
        due.is("told(0, 4)", y.told(0, 4), 16);
        due.is("frame", Due.line(y, "frame 1 2 11"), 6);
        refused(y, "swap 0 1 5", StreamWeave.FULL);
        due.is("told(0, 2)", y.told(0, 2), 10);
        due.is("told(0, 4)", y.told(0, 4), 16);
        refused(y, "swap 0 1 6", StreamWeave.FULL);
        due.is("swap", Due.line(y, "swap 0 1 4"), 10);
        due.is("told(0, 4)", y.told(0, 4), 17);
        due.is("told(1, 2)", y.told(1, 2), 7);
    }

    private static void writtenAs(StreamWeave x, int p, int f, String text) {
        due.is("written(" + p + ", " + f + ", -1)", x.written(p, f, -1), text.length());
        for (int k = 0; k < text.length(); k++) {
            due.is("written(" + p + ", " + f + ", " + k + ")", x.written(p, f, k), text.charAt(k));
        }
        due.is("written behind the last", x.written(p, f, text.length()), StreamWeave.NONE);
        due.is("written far behind", x.written(p, f, Integer.MAX_VALUE), StreamWeave.NONE);
    }

    private static void written() {
        due.about("6 written");
        StreamWeave x = Due.woven("frame 3 09 05", "frame 3 1 10", "frame 0 2 99");
        writtenAs(x, 3, 0, "frame 3 9 5");
        writtenAs(x, 3, 1, "frame 3 1 10");
        writtenAs(x, 0, 0, "frame 0 2 99");
        due.is("no frame", x.written(3, 2, -1), StreamWeave.NONE);
        due.is("no frame", x.written(3, -1, 0), StreamWeave.NONE);
        due.is("no frame", x.written(1, 0, 0), StreamWeave.NONE);
        due.is("far frame", x.written(1, Integer.MAX_VALUE, 0), StreamWeave.NONE);
        due.is("far frame", x.written(1, Integer.MIN_VALUE, 0), StreamWeave.NONE);
        due.is("k", x.written(3, 0, -2), StreamWeave.OUTSIDE);
        due.is("k without a frame", x.written(3, 9, -2), StreamWeave.OUTSIDE);
        due.is("programme", x.written(4, 0, 0), StreamWeave.OUTSIDE);
        due.is("programme", x.written(-1, 0, 0), StreamWeave.OUTSIDE);
    }

    private static void told() {
        due.about("7 told");
        StreamWeave x = Due.woven("frame 3 9 5", "frame 3 1 10", "room 3 12", "clock 3 6", "clock 1 7");
        int[] wants = {12, 6, 2, 10, 10};
        for (int what = 0; what < 5; what++) {
            due.is("told(3, " + what + ")", x.told(3, what), wants[what]);
        }
        due.is("told(1, 1)", x.told(1, 1), 7);
        due.is("told(1, 3)", x.told(1, 3), StreamWeave.NONE);
        due.is("told(1, 4)", x.told(1, 4), 0);
        due.is("told(4, 0)", x.told(4, 0), StreamWeave.OUTSIDE);
        due.is("told(-1, 0)", x.told(-1, 0), StreamWeave.OUTSIDE);
        due.is("told(0, 5)", x.told(0, 5), StreamWeave.OUTSIDE);
        due.is("told(0, -1)", x.told(0, -1), StreamWeave.OUTSIDE);
    }
}
