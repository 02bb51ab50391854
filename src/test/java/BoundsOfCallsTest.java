/** The bounds that promises 1 to 18 tell with their calls: a test for each sentence. */
public final class BoundsOfCallsTest {
    private static final int OUTSIDE = StreamWeave.OUTSIDE, STATE = StreamWeave.STATE, FULL = StreamWeave.FULL;
    private static final int NONE = StreamWeave.NONE, FAULT = StreamWeave.FAULT;
    private static final int LEAST = Integer.MIN_VALUE, GREATEST = Integer.MAX_VALUE;
    private static final int[] NO_PROGRAMMES = {LEAST, -5, -1, 4, 5, GREATEST};
    private static final int[] NO_TICKS = {LEAST, -2, -1, 100, 101, GREATEST};
    private static final Due due = new Due();

    public static void main(String[] args) {
        constants();
        newObject();
        say();
        wipe();
        line();
        fault();
        written();
        told();
        packet();
        held();
        frame();
        sent();
        most();
        needs();
        room();
        without();
        image();
        restore();
        count();
        due.end();
    }

    private static void line(StreamWeave x, String text, int want) {
        due.is(text, Due.line(x, text), want);
    }

    private static void constants() {
        due.about("OUTSIDE = -2, STATE = -3, FULL = -4, NONE = -6, FAULT = -7");
        due.is("OUTSIDE", OUTSIDE, -2);
        due.is("STATE", STATE, -3);
        due.is("FULL", FULL, -4);
        due.is("NONE", NONE, -6);
        due.is("FAULT", FAULT, -7);
    }

    // ---- promise 1

    private static void newObject() {
        StreamWeave x = new StreamWeave();
        due.about("1: No FRAMES");
        due.is("count(2)", x.count(2), 0);
        for (int p = 0; p < 4; p++) {
            due.is("told(p, 2)", x.told(p, 2), 0);
            due.is("frame(p, 0, 0)", x.frame(p, 0, 0), NONE);
        }
        due.about("1: THE LINE is empty");
        due.is("count(3)", x.count(3), 0);
        due.is("wipe()", x.wipe(), 0);
        due.is("fault()", x.fault(), 0);
        due.about("1: no FAULT");
        due.is("count(4)", x.count(4), NONE);
        due.about("1: no IMAGE");
        due.is("count(5)", x.count(5), 0);
        due.is("restore(0)", x.restore(0), STATE);
        due.is("restore(1)", x.restore(1), STATE);
        StreamWeave other = Due.woven("frame 0 1 1", "wide 2");
        other.image(0);
        due.is("restore(0), kept by another object", x.restore(0), STATE);
        due.is("count(0), changed in another object", x.count(0), 1);
    }

    // ---- promise 2

    private static void say() {
        due.about("2: A sign more: how many THE LINE has");
        StreamWeave x = new StreamWeave();
        for (int k = 1; k <= 20; k++) {
            due.is("say, sign " + k, x.say("frame 0 1 1 and more".charAt(k - 1)), k);
        }
        x.wipe();
        due.is("say behind wipe", x.say('x'), 1);
        due.about("2: OUTSIDE: it is not 32 to 126");
        x.wipe();
        for (int sign : new int[] {LEAST, -32, -1, 0, 9, 10, 31, 127, 128, 255, 256 + 'a', 65536 + 'a', GREATEST}) {
            due.is("say(" + sign + ")", x.say(sign), OUTSIDE);
        }
        due.is("say(32)", x.say(32), 1);
        due.is("say(126)", x.say(126), 2);
        due.about("2: FULL: it has 20");
        for (int k = 3; k <= 19; k++) {
            x.say('a');
        }
        due.is("count(3)", x.count(3), 19);
        due.is("say at 19", x.say('a'), 20);
        due.is("say at 20", x.say('a'), FULL);
        due.is("say at 20 again", x.say(' '), FULL);
        due.is("count(3)", x.count(3), 20);
        x.wipe();
        due.is("say behind wipe", x.say('a'), 1);
    }

    // ---- promise 3

    private static void wipe() {
        due.about("3: THE LINE is empty");
        StreamWeave x = new StreamWeave();
        Due.type(x, "table 5");
        x.wipe();
        due.is("count(3)", x.count(3), 0);
        due.is("fault()", x.fault(), 0);
        due.is("line()", x.line(), FAULT);
        due.is("count(1)", x.count(1), 20);
        Due.type(x, "wide 2");
        due.is("line(), nothing of it left", x.line(), 1);
        due.about("3: how many signs it had");
        due.is("wipe() of none", x.wipe(), 0);
        x.say('a');
        due.is("wipe() of 1", x.wipe(), 1);
        Due.type(x, "aaaaaaaaaaaaaaaaaaaa");
        due.is("wipe() of 20", x.wipe(), 20);
        due.is("wipe() again", x.wipe(), 0);
        Due.line(x, "table 51");
        due.is("wipe() behind a refusal", x.wipe(), 8);
        Due.line(x, "table 50");
        due.is("wipe() behind what was done", x.wipe(), 0);
    }

    // ---- promise 4

    private static void line() {
        lineEmpties();
        lineAnswersNumbers();
        lineAnswersWhatItWas();
        lineAnswersHowMany();
        lineFault();
        lineOutside();
        lineState();
        lineFull();
    }

    private static void lineEmpties() {
        due.about("4: THE LINE is empty then");
        StreamWeave x = new StreamWeave();
        for (String text : new String[] {"frame 0 1 1", "room 0 1", "clock 0 1", "table 1", "wide 1", "drop 0",
            "swap 0 1 1"}) {
            Due.line(x, text);
            due.is("count(3) behind " + text, x.count(3), 0);
            due.is("line() again behind " + text, x.line(), FAULT);
        }
        for (String text : new String[] {"frame 0 0 1", "table 51", "frame", "swap 1 1 1"}) {
            Due.line(x, text);
            due.is("count(3) behind refused " + text, x.count(3), text.length());
        }
        Due.line(x, "wide ");
        x.say('3');
        due.is("line() of what a refused one goes on to", x.line(), 1);
    }

    private static void lineAnswersNumbers() {
        due.about("4: of frame the number of the FRAME");
        StreamWeave x = new StreamWeave();
        for (int f = 0; f < 10; f++) {
            line(x, "frame 0 9 " + (90 + f), f);
        }
        line(x, "frame 3 9 1", 0);
        line(x, "swap 0 2 95", 5);
        line(x, "frame 0 9 95", 5);
    }

    private static void lineAnswersWhatItWas() {
        due.about("4: of room, clock, table, wide what it was");
        StreamWeave x = new StreamWeave();
        line(x, "room 3 40", 10);
        line(x, "room 3 40", 40);
        line(x, "room 3 1", 40);
        line(x, "room 2 1", 10);
        line(x, "clock 3 50", 0);
        line(x, "clock 3 0", 50);
        line(x, "clock 3 0", 0);
        line(x, "table 0", 20);
        line(x, "table 50", 0);
        line(x, "table 50", 50);
        line(x, "wide 4", 1);
        line(x, "wide 4", 4);
        line(x, "wide 1", 4);
    }

    private static void lineAnswersHowMany() {
        StreamWeave x = new StreamWeave();
        due.about("4: of drop how many FRAMES went");
        line(x, "drop 0", 0);
        for (int f = 0; f < 10; f++) {
            Due.line(x, "frame 0 1 " + (f + 1));
        }
        line(x, "drop 1", 0);
        line(x, "drop 0", 10);
        line(x, "drop 0", 0);
        due.about("4: of swap how many FRAMES p has");
        line(x, "swap 0 1 1", 0);
        for (int f = 0; f < 10; f++) {
            Due.line(x, "frame 1 1 " + (f + 1));
        }
        line(x, "swap 0 1 1", 10);
        line(x, "swap 0 2 10", 9);
        line(x, "swap 0 1 10", 10);
        line(x, "swap 0 2 1", 0);
        line(x, "swap 0 1 99", 0);
    }

    private static void lineFault() {
        due.about("4: FAULT");
        for (String text : new String[] {"", " ", "frame", "frame ", "frame 0 1", "frame 0 1 ", "frame 0 1 1 ",
            "frame 0 1 1 1", "frame 0 1 100", "room 1", "clock 1 1 1", "table", "table -", "wide 1x", "drop",
            "swap 0 1"}) {
            StreamWeave x = new StreamWeave();
            line(x, text, FAULT);
            due.is("count(4) of '" + text + "'", x.count(4), x.fault());
            due.is("count(2) of '" + text + "'", x.count(2), 0);
        }
    }

    private static void lineOutside() {
        StreamWeave x = Due.woven("frame 0 1 5", "frame 1 1 6");
        due.about("4: OUTSIDE: a NUMBER is not as told (p, q 0 to 3");
        line(x, "frame 4 1 9", OUTSIDE);
        line(x, "room 4 10", OUTSIDE);
        line(x, "clock 4 0", OUTSIDE);
        line(x, "drop 4", OUTSIDE);
        line(x, "swap 4 0 5", OUTSIDE);
        line(x, "swap 0 4 5", OUTSIDE);
        line(x, "swap 4 4 5", OUTSIDE);
        line(x, "swap 99 99 99", OUTSIDE);
        due.about("4: OUTSIDE: p and q are one");
        for (int p = 0; p < 4; p++) {
            line(x, "swap " + p + " " + p + " 5", OUTSIDE);
            line(x, "swap 0" + p + " " + p + " 99", OUTSIDE);
        }
        due.about("4: OUTSIDE: t 1 to 99)");
        line(x, "swap 0 1 0", OUTSIDE);
        line(x, "swap 0 1 00", OUTSIDE);
        due.is("told(0, 2)", x.told(0, 2), 1);
        line(x, "swap 2 1 1", 1);
        line(x, "swap 2 1 99", 1);
    }

    private static void lineState() {
        due.about("4: STATE: of frame, DUE d is not greater than that of the last FRAME of p");
        StreamWeave x = Due.woven("frame 0 1 5", "frame 0 1 7", "frame 1 1 90");
        line(x, "frame 0 1 7", STATE);
        line(x, "frame 0 1 6", STATE);
        line(x, "frame 0 1 5", STATE);
        line(x, "frame 0 1 1", STATE);
        line(x, "frame 1 1 89", STATE);
        line(x, "frame 0 1 8", 2);
        line(x, "frame 1 1 91", 1);
        line(x, "frame 2 1 1", 0);
    }

    private static void lineFull() {
        due.about("4: FULL: of frame, p has 10 FRAMES");
        StreamWeave x = new StreamWeave();
        for (int f = 0; f < 9; f++) {
            Due.line(x, "frame 0 1 " + (f + 1));
        }
        line(x, "frame 0 1 10", 9);
        line(x, "frame 0 1 11", FULL);
        line(x, "frame 0 1 99", FULL);
        due.is("told(0, 2)", x.told(0, 2), 10);
        due.about("4: FULL: of swap, p would have more than 10");
        line(x, "frame 1 1 10", 0);
        line(x, "frame 1 1 11", 1);
        line(x, "swap 0 1 11", FULL);
        due.is("told(0, 2)", x.told(0, 2), 10);
        due.is("told(0, 3)", x.told(0, 3), 10);
        line(x, "swap 0 1 10", FULL);
        due.is("told(0, 2)", x.told(0, 2), 10);
        line(x, "swap 0 1 9", 10);
        due.is("told(0, 3)", x.told(0, 3), 11);
        line(x, "swap 1 0 12", 2);
    }

    // ---- promise 5

    private static void fault() {
        due.about("5: The FAULT of THE LINE as it is");
        StreamWeave x = new StreamWeave();
        String text = "room 1 23 ";
        int[] wants = {1, 2, 3, 4, 5, 6, 7, NONE, NONE, 9};
        due.is("fault() of ''", x.fault(), 0);
        for (int k = 0; k < text.length(); k++) {
            x.say(text.charAt(k));
            due.is("fault() of '" + text.substring(0, k + 1) + "'", x.fault(), wants[k]);
        }
        x.say('1');
        due.is("fault() stays at the first", x.fault(), 9);
        due.is("count(3), nothing is done", x.count(3), 11);
        due.is("count(4), nothing is told by line()", x.count(4), NONE);
        x.wipe();
        due.is("fault() behind wipe", x.fault(), 0);
        due.about("5: NONE: it has none");
        Due.type(x, "room 4 99");
        due.is("fault() of a LINE with NUMBERS outside", x.fault(), NONE);
        due.is("line()", x.line(), OUTSIDE);
        due.is("fault() behind a refusal", x.fault(), NONE);
    }

    // ---- promise 6

    private static void writes(StreamWeave x, int p, int f, String text) {
        for (int k = 0; k < text.length(); k++) {
            due.is("written(" + p + ", " + f + ", " + k + ")", x.written(p, f, k), text.charAt(k));
        }
    }

    private static void written() {
        StreamWeave x = Due.woven("frame 0 1 1", "frame 0 9 9", "frame 0 05 10", "frame 3 5 99", "frame 02 02 02");
        due.about("6: Sign k, from 0 on, .. without a 0 ahead of a figure");
        writes(x, 0, 0, "frame 0 1 1");
        writes(x, 0, 1, "frame 0 9 9");
        writes(x, 0, 2, "frame 0 5 10");
        writes(x, 3, 0, "frame 3 5 99");
        writes(x, 2, 0, "frame 2 2 2");
        due.about("6: k = -1: how many signs");
        due.is("written(0, 1, -1), DUE 9", x.written(0, 1, -1), 11);
        due.is("written(0, 2, -1), DUE 10", x.written(0, 2, -1), 12);
        writtenNone(x);
        due.about("6: OUTSIDE: the PROGRAMME, k is below -1");
        for (int p : NO_PROGRAMMES) {
            due.is("written(" + p + ", 0, 0)", x.written(p, 0, 0), OUTSIDE);
            due.is("written(" + p + ", 0, -1)", x.written(p, 0, -1), OUTSIDE);
        }
        due.is("written(0, 0, -2)", x.written(0, 0, -2), OUTSIDE);
        due.is("written(0, 0, least)", x.written(0, 0, LEAST), OUTSIDE);
        due.is("written(1, 0, -2), no FRAME", x.written(1, 0, -2), OUTSIDE);
    }

    private static void writtenNone(StreamWeave x) {
        due.about("6: NONE: there is no such FRAME (f below 0, too), or sign");
        for (int f : new int[] {LEAST, -1, 3, 9, 10, GREATEST}) {
            due.is("written(0, " + f + ", 0)", x.written(0, f, 0), NONE);
            due.is("written(0, " + f + ", -1)", x.written(0, f, -1), NONE);
        }
        due.is("written(1, 0, -1)", x.written(1, 0, -1), NONE);
        due.is("written(0, 1, 11), DUE 9", x.written(0, 1, 11), NONE);
        due.is("written(0, 2, 11), DUE 10", x.written(0, 2, 11), '0');
        due.is("written(0, 2, 12), DUE 10", x.written(0, 2, 12), NONE);
        due.is("written(0, 2, greatest)", x.written(0, 2, GREATEST), NONE);
        Due.line(x, "swap 0 1 10");
        due.is("written(0, 2, 0), which went", x.written(0, 2, 0), NONE);
        due.is("written(0, 1, 0), which stayed", x.written(0, 1, 0), 'f');
    }

    // ---- promise 7

    private static void told() {
        StreamWeave x = Due.woven("room 3 40", "clock 3 50");
        due.about("7: ROOM (what = 0), CLOCK (1)");
        due.is("told(3, 0)", x.told(3, 0), 40);
        due.is("told(3, 1)", x.told(3, 1), 50);
        due.about("7: the greatest DUE (3; NONE: no FRAMES)");
        due.is("told(3, 3)", x.told(3, 3), NONE);
        Due.line(x, "frame 3 9 1");
        due.is("told(3, 3)", x.told(3, 3), 1);
        Due.line(x, "frame 3 9 99");
        due.is("told(3, 3)", x.told(3, 3), 99);
        due.is("told(2, 3)", x.told(2, 3), NONE);
        Due.line(x, "drop 3");
        due.is("told(3, 3) behind drop", x.told(3, 3), NONE);
        due.about("7: how many FRAMES (2), PACKETS of all FRAMES, added (4)");
        for (int f = 0; f < 10; f++) {
            due.is("told(0, 2)", x.told(0, 2), f);
            due.is("told(0, 4)", x.told(0, 4), 9 * f);
            Due.line(x, "frame 0 9 " + (f + 1));
        }
        due.is("told(0, 2)", x.told(0, 2), 10);
        due.is("told(0, 4)", x.told(0, 4), 90);
        due.about("7: OUTSIDE: both");
        for (int p : NO_PROGRAMMES) {
            for (int what = 0; what < 5; what++) {
                due.is("told(" + p + ", " + what + ")", x.told(p, what), OUTSIDE);
            }
        }
        for (int what : new int[] {LEAST, -1, 5, 6, GREATEST}) {
            due.is("told(0, " + what + ")", x.told(0, what), OUTSIDE);
            due.is("told(4, " + what + ")", x.told(4, what), OUTSIDE);
        }
    }

    // ---- promise 8

    private static void packet() {
        due.about("8: i from 0 to WIDE less 1");
        StreamWeave x = Due.woven("table 50");
        for (int wide = 1; wide <= 4; wide++) {
            Due.line(x, "wide " + wide);
            for (int i = 0; i < wide; i++) {
                due.is("packet(0, " + i + ", 0) of WIDE " + wide, x.packet(0, i, 0), i == 0 ? 1 : 0);
            }
            for (int i : new int[] {LEAST, -1, wide, wide + 1, GREATEST}) {
                due.is("packet(0, " + i + ", 0) of WIDE " + wide, x.packet(0, i, 0), OUTSIDE);
            }
        }
        packetWhat();
        due.about("8: OUTSIDE: the TICK (0 to 99)");
        due.is("packet(0, 3, 0)", x.packet(0, 3, 0), 0);
        due.is("packet(99, 3, 0)", x.packet(99, 3, 0), 0);
        for (int tick : NO_TICKS) {
            due.is("packet(" + tick + ", 0, 0)", x.packet(tick, 0, 0), OUTSIDE);
        }
        due.about("8: OUTSIDE: .. what");
        for (int what : new int[] {LEAST, -1, 4, 5, GREATEST}) {
            due.is("packet(0, 0, " + what + ")", x.packet(0, 0, what), OUTSIDE);
        }
    }

    private static void packetWhat() {
        StreamWeave x = Due.woven("wide 4", "clock 3 20", "frame 2 1 9");
        int[] kinds = {1, 2, 3, 0};
        int[] programmes = {NONE, 3, 2, NONE};
        int[] frames = {NONE, NONE, 0, NONE};
        for (int i = 0; i < 4; i++) {
            due.about("8: what it is (what = 0: 0 STUFFING, 1 TABLE, 2 CLOCK, 3 of a FRAME)");
            due.is("packet(0, " + i + ", 0)", x.packet(0, i, 0), kinds[i]);
            due.about("8: the PROGRAMME (1; NONE: STUFFING, TABLE)");
            due.is("packet(0, " + i + ", 1)", x.packet(0, i, 1), programmes[i]);
            due.about("8: the FRAME (2; NONE but of FRAMES)");
            due.is("packet(0, " + i + ", 2)", x.packet(0, i, 2), frames[i]);
        }
        due.about("8: the COUNTER (3)");
        int[] counters = {1, 1, 0, 0};
        for (int i = 0; i < 4; i++) {
            due.is("packet(20, " + i + ", 3)", x.packet(20, i, 3), counters[i]);
        }
    }

    // ---- promise 9

    private static void held() {
        due.about("9: How many PACKETS a PROGRAMME HOLDS behind a TICK");
        StreamWeave x = Due.woven("table 0", "wide 2", "frame 3 3 2", "frame 3 1 99");
        int[] ticks = {0, 1, 2, 98, 99};
        int[] wants = {2, 4, 1, 1, 0};
        for (int k = 0; k < ticks.length; k++) {
            due.is("held(3, " + ticks[k] + ")", x.held(3, ticks[k]), wants[k]);
            due.is("held(0, " + ticks[k] + ")", x.held(0, ticks[k]), 0);
        }
        due.about("9: OUTSIDE: both");
        for (int p : NO_PROGRAMMES) {
            due.is("held(" + p + ", 0)", x.held(p, 0), OUTSIDE);
        }
        for (int tick : NO_TICKS) {
            due.is("held(3, " + tick + ")", x.held(3, tick), OUTSIDE);
            due.is("held(4, " + tick + ")", x.held(4, tick), OUTSIDE);
        }
    }

    // ---- promise 10

    private static void frameIs(StreamWeave x, int p, int f, int... wants) {
        for (int what = 0; what < wants.length; what++) {
            due.is("frame(" + p + ", " + f + ", " + what + ")", x.frame(p, f, what), wants[what]);
        }
    }

    private static void frame() {
        due.about("10: how many of its PACKETS are sent (2), .. whether it is SHOWN (5: 1, 0)");
        StreamWeave x = Due.woven("table 0", "wide 4", "frame 0 4 1", "frame 0 5 2", "frame 1 9 3", "frame 2 1 99");
        frameIs(x, 0, 0, 4, 1, 4, 0, 0, 1);
        frameIs(x, 0, 1, 5, 2, 4, 1, 1, 0);
        frameIs(x, 1, 0, 9, 3, 4, 2, 2, 0);
        frameIs(x, 2, 0, 1, 99, 1, 3, 3, 1);
        frameNoneSent();
        due.about("10: NONE: there is no such FRAME (below 0, too)");
        for (int what = 0; what < 6; what++) {
            for (int f : new int[] {LEAST, -1, 2, 9, 10, GREATEST}) {
                due.is("frame(0, " + f + ", " + what + ")", x.frame(0, f, what), NONE);
            }
            due.is("frame(3, 0, " + what + ")", x.frame(3, 0, what), NONE);
        }
        due.about("10: OUTSIDE: the PROGRAMME, what");
        for (int p : NO_PROGRAMMES) {
            due.is("frame(" + p + ", 0, 0)", x.frame(p, 0, 0), OUTSIDE);
            due.is("frame(" + p + ", -1, 0)", x.frame(p, -1, 0), OUTSIDE);
        }
        for (int what : new int[] {LEAST, -1, 6, 7, GREATEST}) {
            due.is("frame(0, 0, " + what + ")", x.frame(0, 0, what), OUTSIDE);
            due.is("frame(0, -1, " + what + ")", x.frame(0, -1, what), OUTSIDE);
        }
        Due.line(x, "drop 0");
        due.about("10: NONE: there is no such FRAME (below 0, too)");
        due.is("frame(0, 0, 0), which went", x.frame(0, 0, 0), NONE);
    }

    private static void frameNoneSent() {
        due.about("10: the TICK at which the first one that is sent is (3; NONE: none is), the last one (4; NONE)");
        StreamWeave x = Due.woven("table 0", "frame 0 2 2", "frame 1 1 2", "frame 2 1 1", "frame 3 3 9");
        frameIs(x, 0, 0, 2, 2, 1, 1, 1, 0);
        frameIs(x, 1, 0, 1, 2, 0, NONE, NONE, 0);
        frameIs(x, 2, 0, 1, 1, 1, 0, 0, 1);
        frameIs(x, 3, 0, 3, 9, 3, 2, 4, 1);
        StreamWeave apart = Due.woven("table 0", "clock 0 2", "frame 1 3 50", "frame 2 1 3");
        due.is("frame(1, 0, 3), with others between", apart.frame(1, 0, 3), 3);
        due.is("frame(1, 0, 4), with others between", apart.frame(1, 0, 4), 7);
        // A TICK 0 is told as 0, and what was told of an earlier stream is told no more.
        Due.line(apart, "clock 0 0");
        Due.line(apart, "drop 2");
        frameIs(apart, 1, 0, 3, 50, 3, 0, 2, 1);
        Due.line(apart, "table 1");
        frameIs(apart, 1, 0, 3, 50, 0, NONE, NONE, 0);
    }

    // ---- promise 11

    private static void sent() {
        due.about("11: how many STUFFINGS (0), TABLES (1), CLOCKS (2), PACKETS of FRAMES (3) are sent");
        StreamWeave none = Due.woven("table 0");
        int[] wantsOfNone = {100, 0, 0, 0, 0, 0, 0, NONE};
        for (int what = 0; what < 8; what++) {
            due.is("sent(" + what + ") of nothing", none.sent(what), wantsOfNone[what]);
        }
        StreamWeave all = Due.woven("table 1", "wide 4", "clock 0 1", "clock 3 50", "frame 1 9 2", "frame 1 9 99",
            "frame 2 9 1");
        // Behind a TABLE and the first CLOCK two are left at each TICK, but one at 0 and at 50.
        due.is("sent(1)", all.sent(1), 100);
        due.is("sent(2)", all.sent(2), 102);
        due.is("sent(3)", all.sent(3), 1 + 2 + 9);
        due.is("sent(0)", all.sent(0), 400 - 100 - 102 - 12);
        due.about("11: how many FRAMES are SHOWN (4), LATE (5)");
        due.is("sent(4)", all.sent(4), 1);
        due.is("sent(5)", all.sent(5), 2);
        due.about("11: PACKETS of FRAMES that never are sent (6)");
        due.is("sent(6)", all.sent(6), 8 + 7);
        due.about("11: the first TICK at which any FRAME is LATE (7; NONE)");
        due.is("sent(7)", all.sent(7), 1);
        StreamWeave last = Due.woven("table 1", "frame 3 1 99");
        due.is("sent(7), at the last TICK", last.sent(7), 99);
        Due.line(last, "frame 0 1 98");
        due.is("sent(7), of a PROGRAMME before it", last.sent(7), 98);
        Due.line(last, "wide 2");
        due.is("sent(7), none", last.sent(7), NONE);
        due.about("11: OUTSIDE");
        for (int what : new int[] {LEAST, -1, 8, 9, GREATEST}) {
            due.is("sent(" + what + ")", last.sent(what), OUTSIDE);
        }
    }

    // ---- promise 12

    private static void most() {
        due.about("12: The most PACKETS that a PROGRAMME HOLDS behind any TICK");
        StreamWeave x = Due.woven("table 0", "wide 4", "frame 0 4 1", "frame 1 3 98", "frame 1 9 99");
        due.is("most(0), at the first TICK", x.most(0), 4);
        due.is("most(1), as much as the ROOM", x.most(1), 10);
        due.is("most(2), none", x.most(2), 0);
        Due.line(x, "room 1 40");
        due.is("most(1), all", x.most(1), 12);
        Due.line(x, "room 1 3");
        due.is("most(1)", x.most(1), 3);
        StreamWeave last = Due.woven("table 0", "wide 4", "room 3 4", "frame 3 2 98", "frame 3 9 99");
        due.is("most(3)", last.most(3), 4);
        Due.line(last, "drop 3");
        due.is("most(3) behind drop", last.most(3), 0);
        // Within a TICK, between (a) and (b), fewer are HELD: that is told nowhere.
        StreamWeave between = Due.woven("table 0", "room 0 1", "frame 0 1 1", "frame 0 1 2");
        due.is("most(0)", between.most(0), 1);
        due.about("12: OUTSIDE");
        for (int p : NO_PROGRAMMES) {
            due.is("most(" + p + ")", x.most(p), OUTSIDE);
        }
    }

    // ---- promise 13

    private static void needs() {
        due.about("13: The least WIDE, 1 to 4, by which, all else as it is, no FRAME would be LATE");
        due.is("needs() without FRAMES", new StreamWeave().needs(), 1);
        for (int size = 1; size <= 4; size++) {
            for (int wide = 1; wide <= 4; wide++) {
                StreamWeave x = Due.woven("table 0", "wide " + wide, "frame 0 " + size + " 1");
                due.is("needs() of SIZE " + size + ", WIDE " + wide, x.needs(), size);
                due.is("count(0)", x.count(0), wide);
                due.is("sent(5)", x.sent(5), size > wide ? 1 : 0);
            }
        }
        StreamWeave last = Due.woven("frame 0 8 99", "frame 1 9 99", "room 0 8", "room 1 9", "clock 2 1");
        due.is("needs() of the last TICK", last.needs(), 2);
        // By WIDE 2 both CLOCKS come at TICK 4, the only one at which the second FRAME has ROOM.
        StreamWeave wider = Due.woven("wide 2", "table 5", "clock 0 4", "clock 1 3", "room 3 1", "frame 3 1 4",
            "frame 3 1 5");
        due.is("sent(5) by WIDE 2", wider.sent(5), 1);
        due.is("needs(), less than what makes a FRAME LATE", wider.needs(), 1);
        due.about("13: NONE: there is none");
        due.is("needs() of SIZE 5", Due.woven("table 0", "frame 0 5 1").needs(), NONE);
        due.is("needs() with a TABLE", Due.woven("frame 0 4 1").needs(), NONE);
        due.is("needs() of too little ROOM", Due.woven("room 3 1", "frame 3 2 99").needs(), NONE);
        due.is("needs() of as much ROOM", Due.woven("room 3 2", "frame 3 2 99").needs(), 1);
    }

    // ---- promise 14

    private static void room() {
        due.about("14: The least ROOM, 1 to 40, of a PROGRAMME by which no FRAME of any PROGRAMME would be LATE");
        for (int p = 0; p < 4; p++) {
            due.is("room(" + p + ") without FRAMES", new StreamWeave().room(p), 1);
        }
        for (int size = 1; size <= 9; size++) {
            StreamWeave x = Due.woven("room 2 1", "frame 2 " + size + " 50");
            due.is("room(2) of SIZE " + size, x.room(2), size);
            due.is("told(2, 0)", x.told(2, 0), 1);
        }
        due.is("room(0), 40", fiveFrames(8).room(0), 40);
        StreamWeave less = fiveFrames(7);
        due.is("room(0), 39", less.room(0), 39);
        Due.line(less, "room 0 40");
        due.is("room(0), less than it is", less.room(0), 39);
        due.about("14: NONE: there is none");
        due.is("room(0), 41", fiveFrames(9).room(0), NONE);
        StreamWeave other = Due.woven("room 1 1", "frame 1 2 50", "frame 0 1 50");
        due.is("room(0), another one is LATE", other.room(0), NONE);
        due.is("room(3), another one is LATE", other.room(3), NONE);
        due.is("room(1)", other.room(1), 2);
        roomAndOthers();
        due.about("14: OUTSIDE");
        for (int p : NO_PROGRAMMES) {
            due.is("room(" + p + ")", other.room(p), OUTSIDE);
        }
    }

    /** Four FRAMES of 9 and one more: ahead of its DUE all but the 4 at TICKS 90 to 93 must be HELD at once. */
    private static StreamWeave fiveFrames(int lastSize) {
        return Due.woven("table 0", "frame 0 9 90", "frame 0 9 91", "frame 0 9 92", "frame 0 9 93",
            "frame 0 " + lastSize + " 94");
    }

    private static void roomAndOthers() {
        due.about("14: .. no FRAME of any PROGRAMME would be LATE");
        // Both need the one PACKET of TICK 5; with more ROOM either of them would have sent its own before.
        StreamWeave x = Due.woven("table 0", "room 0 1", "room 1 1", "frame 0 1 5", "frame 0 1 6", "frame 1 1 5",
            "frame 1 1 6");
        due.is("frame(0, 1, 5)", x.frame(0, 1, 5), 1);
        due.is("frame(1, 1, 5)", x.frame(1, 1, 5), 0);
        due.is("room(0), that another one is not LATE", x.room(0), 2);
        due.is("room(1)", x.room(1), 2);
        due.is("room(2)", x.room(2), NONE);
    }

    // ---- promise 15

    private static void without() {
        due.about("15: How many FRAMES would be LATE without a PROGRAMME (its FRAMES and its CLOCK left out)");
        due.is("without(0) of nothing", new StreamWeave().without(0), 0);
        StreamWeave x = Due.woven("table 0", "clock 1 1", "frame 0 1 1", "frame 0 1 2", "frame 1 1 5", "frame 3 4 6");
        int[] wants = {2, 0, 4, 3};
        for (int p = 0; p < 4; p++) {
            due.is("without(" + p + ")", x.without(p), wants[p]);
        }
        due.is("sent(5)", x.sent(5), 4);
        due.is("told(1, 1)", x.told(1, 1), 1);
        due.is("told(1, 2)", x.told(1, 2), 1);
        StreamWeave clock = Due.woven("table 0", "clock 2 1", "frame 0 1 1");
        due.is("without(2), its CLOCK alone", clock.without(2), 0);
        due.is("without(0)", clock.without(0), 0);
        due.is("without(1)", clock.without(1), 1);
        StreamWeave frames = Due.woven("table 0", "frame 2 2 1", "frame 3 1 1");
        due.is("without(2), its FRAMES alone", frames.without(2), 0);
        due.is("without(3)", frames.without(3), 1);
        due.about("15: OUTSIDE");
        for (int p : NO_PROGRAMMES) {
            due.is("without(" + p + ")", x.without(p), OUTSIDE);
        }
    }

    // ---- promise 16

    private static void image() {
        due.about("16: All but THE LINE, the place of the FAULT and IMAGES is kept in an IMAGE (0, 1)");
        for (int k = 0; k < 2; k++) {
            StreamWeave x = Due.woven("wide 4", "table 50", "room 3 40", "clock 3 50", "frame 3 9 99", "frame 0 1 1");
            due.is("image(" + k + ")", x.image(k), 1);
            due.is("count(5)", x.count(5), k + 1);
            for (String text : new String[] {"wide 1", "table 0", "room 3 1", "clock 3 0", "drop 3", "frame 0 1 2"}) {
                Due.line(x, text);
            }
            x.restore(k);
            int[] wants = {40, 50, 1, 99, 9};
            for (int what = 0; what < 5; what++) {
                due.is("told(3, " + what + ")", x.told(3, what), wants[what]);
            }
            due.is("count(0)", x.count(0), 4);
            due.is("count(1)", x.count(1), 50);
            due.is("count(2)", x.count(2), 2);
            due.is("frame(0, 0, 1)", x.frame(0, 0, 1), 1);
        }
        imageReplaced();
        due.about("16: OUTSIDE");
        StreamWeave x = new StreamWeave();
        for (int k : new int[] {LEAST, -1, 2, 3, 32, GREATEST}) {
            due.is("image(" + k + ")", x.image(k), OUTSIDE);
        }
        due.is("count(5)", x.count(5), 0);
    }

    private static void imageReplaced() {
        due.about("16: in place of what was kept there");
        StreamWeave x = Due.woven("wide 2", "frame 0 1 1", "frame 0 1 2");
        x.image(0);
        x.image(1);
        Due.line(x, "wide 3");
        Due.line(x, "drop 0");
        due.is("image(0) again", x.image(0), 1);
        due.is("count(5)", x.count(5), 3);
        x.restore(1);
        due.is("count(0) of the other one", x.count(0), 2);
        due.is("count(2) of the other one", x.count(2), 2);
        x.restore(0);
        due.is("count(0)", x.count(0), 3);
        due.is("count(2)", x.count(2), 0);
    }

    // ---- promise 17

    private static void restore() {
        due.about("17: All but THE LINE, the place of the FAULT and IMAGES is as it was");
        StreamWeave x = new StreamWeave();
        Due.line(x, "tab");
        due.is("image(0)", x.image(0), 1);
        Due.line(x, "wide 2");
        Due.line(x, "wide 2 ");
        x.image(1);
        x.wipe();
        Due.type(x, "wide 3");
        due.is("restore(0)", x.restore(0), 1);
        due.is("count(0)", x.count(0), 1);
        due.is("count(3), THE LINE stays", x.count(3), 6);
        due.is("count(4), the place stays", x.count(4), 6);
        due.is("count(5), IMAGES stay", x.count(5), 3);
        due.is("line()", x.line(), 1);
        due.is("count(0)", x.count(0), 3);
        due.about("17: the IMAGE stays");
        due.is("restore(0) again", x.restore(0), 1);
        due.is("count(0)", x.count(0), 1);
        Due.line(x, "frame 0 1 1");
        Due.line(x, "wide 4");
        due.is("restore(0) once more", x.restore(0), 1);
        due.is("count(0)", x.count(0), 1);
        due.is("count(2)", x.count(2), 0);
        due.is("restore(1)", x.restore(1), 1);
        due.is("count(0)", x.count(0), 2);
        restoreRefused();
    }

    private static void restoreRefused() {
        due.about("17: OUTSIDE");
        StreamWeave x = Due.woven("wide 2");
        for (int k : new int[] {LEAST, -1, 2, 3, 32, GREATEST}) {
            due.is("restore(" + k + ")", x.restore(k), OUTSIDE);
        }
        due.about("17: STATE: nothing was kept in it");
        due.is("restore(0)", x.restore(0), STATE);
        due.is("restore(1)", x.restore(1), STATE);
        due.is("count(0)", x.count(0), 2);
        x.image(1);
        due.is("restore(0), 1 is kept", x.restore(0), STATE);
        due.is("restore(1)", x.restore(1), 1);
        StreamWeave y = new StreamWeave();
        y.image(0);
        due.is("restore(1), 0 is kept", y.restore(1), STATE);
        due.is("restore(0)", y.restore(0), 1);
        due.is("restore(32), 0 is kept", y.restore(32), OUTSIDE);
    }

    // ---- promise 18

    private static void count() {
        due.about("18: how many FRAMES there are in all (2)");
        StreamWeave x = new StreamWeave();
        for (int f = 0; f < 10; f++) {
            due.is("count(2)", x.count(2), f);
            Due.line(x, "frame 0 1 " + (f + 1));
        }
        for (int p = 1; p < 4; p++) {
            due.is("count(2)", x.count(2), 10 * p);
            Due.line(x, "swap " + p + " 0 1");
        }
        due.is("count(2), the most", x.count(2), 40);
        Due.line(x, "drop 0");
        due.is("count(2) behind drop", x.count(2), 30);
        StreamWeave y = Due.woven("wide 4", "table 50");
        due.about("18: WIDE (0), TABLE (1)");
        due.is("count(0)", y.count(0), 4);
        due.is("count(1)", y.count(1), 50);
        due.about("18: signs of THE LINE (3)");
        for (int k = 0; k < 20; k++) {
            due.is("count(3)", y.count(3), k);
            y.say('z');
        }
        due.is("count(3)", y.count(3), 20);
        countFault();
        countImages();
        due.about("18: OUTSIDE");
        for (int what : new int[] {LEAST, -1, 6, 7, GREATEST}) {
            due.is("count(" + what + ")", y.count(what), OUTSIDE);
        }
    }

    private static void countFault() {
        due.about("18: the place of the FAULT that line() told last, which stays till it tells another one "
            + "(4; NONE: none yet)");
        StreamWeave x = new StreamWeave();
        due.is("count(4), none yet", x.count(4), NONE);
        Due.line(x, "table 51");
        due.is("count(4) behind OUTSIDE", x.count(4), NONE);
        Due.line(x, "wide 2");
        due.is("count(4) behind what was done", x.count(4), NONE);
        Due.type(x, "xx");
        x.fault();
        due.is("count(4) behind fault()", x.count(4), NONE);
        due.is("line()", x.line(), FAULT);
        due.is("count(4), the first sign", x.count(4), 0);
        Due.line(x, "frame 00 01 01 aaaaa");
        due.is("count(4), another one", x.count(4), 14);
        x.wipe();
        due.is("count(4) behind wipe", x.count(4), 14);
        Due.line(x, "wide 3");
        due.is("count(4) behind what was done", x.count(4), 14);
        Due.line(x, "wide 5");
        due.is("count(4) behind OUTSIDE", x.count(4), 14);
        Due.line(x, "frame 0 1 5");
        Due.line(x, "frame 0 1 5");
        due.is("count(4) behind STATE", x.count(4), 14);
        x.image(0);
        x.restore(0);
        due.is("count(4) behind restore", x.count(4), 14);
        Due.line(x, "");
        due.is("count(4) of the empty LINE", x.count(4), 0);
    }

    private static void countImages() {
        due.about("18: which IMAGES are kept, a set: bits 0, 1 (5)");
        StreamWeave x = new StreamWeave();
        due.is("count(5), none", x.count(5), 0);
        x.image(1);
        due.is("count(5), 1", x.count(5), 2);
        x.image(1);
        due.is("count(5), 1 again", x.count(5), 2);
        x.image(2);
        due.is("count(5) behind a refusal", x.count(5), 2);
        x.restore(1);
        due.is("count(5) behind restore", x.count(5), 2);
        x.image(0);
        due.is("count(5), both", x.count(5), 3);
        x.restore(1);
        due.is("count(5), both behind restore", x.count(5), 3);
        StreamWeave y = new StreamWeave();
        y.image(0);
        due.is("count(5), 0", y.count(5), 1);
    }
}
