import java.util.ArrayList;
import java.util.List;
import java.util.function.ToIntFunction;

/** The bounds in part 1 of the document's Terms, and its sentences on refusals: a test for each sentence. */
public final class BoundsOfTermsTest {
    private static final int OUTSIDE = StreamWeave.OUTSIDE, STATE = StreamWeave.STATE, FULL = StreamWeave.FULL;
    private static final int NONE = StreamWeave.NONE, FAULT = StreamWeave.FAULT;
    private static final String[] WORDS = {"frame", "room", "clock", "table", "wide", "drop", "swap"};
    private static final int[] NUMBERS = {3, 2, 2, 1, 1, 1, 3};
    private static final Due due = new Due();

    public static void main(String[] args) {
        calls();
        programmes();
        room();
        clock();
        frames();
        numbersOfFrames();
        size();
        dueTick();
        duesRise();
        table();
        wide();
        signs();
        words();
        asManyNumbers();
        blanks();
        nothingElse();
        figures();
        zeroAhead();
        dropAll();
        swapGo();
        swapCome();
        swapStay();
        faultOfFirstSign();
        faultOfAnyNumbers();
        faultOfBeginning();
        firstRefusal();
        noneBehindRefusals();
        refusedChangesNothing();
        asThingsAre();
        due.end();
    }

    private static void refused(StreamWeave x, int want, String... lines) {
        for (String text : lines) {
            due.is(text, Due.line(x, text), want);
        }
    }

    private static void calls() {
        due.about("An object is used for at most 512 calls after it has been made");
        StreamWeave x = new StreamWeave();
        Due.line(x, "frame 3 9 50");
        int made = 1 + "frame 3 9 50".length() + 1;
        for (int call = made + 1; call <= 512; call++) {
            due.is("held(3, 49), call " + call, x.held(3, 49), 9);
        }
        // What they answer is free now, but LANGUAGE.md lets no call throw or go on without an end.
        for (int k = 0; k < 2000; k++) {
            x.say(k % 128);
            x.line();
            x.packet(k % 101, k % 5, k % 5);
            x.image(k % 3);
            x.restore(k % 3);
        }
    }

    private static void programmes() {
        due.about("PROGRAMMES are 0 to 3");
        for (int p = 0; p <= 3; p++) {
            StreamWeave x = new StreamWeave();
            int q = 3 - p;
            due.is("frame", Due.line(x, "frame " + p + " 1 5"), 0);
            due.is("room", Due.line(x, "room " + p + " 9"), 10);
            due.is("clock", Due.line(x, "clock " + p + " 5"), 0);
            due.is("swap", Due.line(x, "swap " + q + " " + p + " 5"), 1);
            due.is("drop", Due.line(x, "drop " + p), 1);
            due.is("told(p, 0)", x.told(p, 0), 9);
            due.is("told(q, 0)", x.told(q, 0), 10);
            due.is("told(q, 2)", x.told(q, 2), 1);
            due.is("count(2)", x.count(2), 1);
        }
        StreamWeave x = new StreamWeave();
        refused(x, OUTSIDE, "frame 4 1 5", "frame 04 1 5", "frame 99 1 5", "room 4 9", "clock 4 5", "drop 4",
            "drop 99", "swap 4 0 5", "swap 0 4 5", "swap 99 0 5", "swap 0 99 5");
    }

    private static void room() {
        due.about("a ROOM, 1 to 40 (10 at first)");
        for (int p = 0; p <= 3; p++) {
            StreamWeave x = new StreamWeave();
            due.is("told(p, 0)", x.told(p, 0), 10);
            due.is("least", Due.line(x, "room " + p + " 1"), 10);
            due.is("told(p, 0)", x.told(p, 0), 1);
            due.is("greatest", Due.line(x, "room " + p + " 40"), 1);
            refused(x, OUTSIDE, "room " + p + " 0", "room " + p + " 00", "room " + p + " 41", "room " + p + " 99");
            due.is("told(p, 0)", x.told(p, 0), 40);
        }
    }

    private static void clock() {
        due.about("a CLOCK, 0 to 50 (0 at first: none)");
        for (int p = 0; p <= 3; p++) {
            StreamWeave x = Due.woven("table 0");
            due.is("told(p, 1)", x.told(p, 1), 0);
            due.is("sent(2)", x.sent(2), 0);
            due.is("greatest", Due.line(x, "clock " + p + " 50"), 0);
            due.is("sent(2)", x.sent(2), 2);
            refused(x, OUTSIDE, "clock " + p + " 51", "clock " + p + " 99");
            due.is("told(p, 1)", x.told(p, 1), 50);
            due.is("least but none", Due.line(x, "clock " + p + " 1"), 50);
            due.is("sent(2)", x.sent(2), 100);
            due.is("none", Due.line(x, "clock " + p + " 0"), 1);
            due.is("sent(2)", x.sent(2), 0);
        }
    }

    private static void frames() {
        due.about("up to 10 FRAMES");
        StreamWeave x = new StreamWeave();
        for (int f = 0; f < 10; f++) {
            Due.line(x, "frame 1 1 " + (f + 1));
        }
        due.is("told(1, 2)", x.told(1, 2), 10);
        refused(x, FULL, "frame 1 1 11", "frame 1 9 99");
        due.is("told(1, 2)", x.told(1, 2), 10);
        due.is("told(1, 3)", x.told(1, 3), 10);
        due.is("frame of another", Due.line(x, "frame 2 1 11"), 0);
        due.is("drop", Due.line(x, "drop 1"), 10);
        due.is("frame behind drop", Due.line(x, "frame 1 1 11"), 0);
    }

    private static void numbersOfFrames() {
        due.about("FRAMES, numbered from 0 on");
        StreamWeave x = new StreamWeave();
        for (int f = 0; f < 10; f++) {
            due.is("frame", Due.line(x, "frame 3 " + (f % 9 + 1) + " " + (f * 9 + 7)), f);
        }
        for (int f = 0; f < 10; f++) {
            due.is("frame(3, f, 0)", x.frame(3, f, 0), f % 9 + 1);
            due.is("frame(3, f, 1)", x.frame(3, f, 1), f * 9 + 7);
        }
    }

    private static void size() {
        due.about("a SIZE, 1 to 9 PACKETS");
        StreamWeave x = new StreamWeave();
        refused(x, OUTSIDE, "frame 0 0 20", "frame 0 00 20", "frame 0 10 20", "frame 0 99 20");
        due.is("count(2)", x.count(2), 0);
        due.is("least", Due.line(x, "frame 0 1 20"), 0);
        due.is("greatest", Due.line(x, "frame 0 9 40"), 1);
        due.is("frame(0, 0, 0)", x.frame(0, 0, 0), 1);
        due.is("frame(0, 1, 0)", x.frame(0, 1, 0), 9);
        due.is("frame(0, 1, 2)", x.frame(0, 1, 2), 9);
    }

    private static void dueTick() {
        due.about("a DUE, a TICK 1 to 99");
        StreamWeave x = new StreamWeave();
        refused(x, OUTSIDE, "frame 0 1 0", "frame 0 1 00");
        refused(x, FAULT, "frame 0 1 100");
        due.is("least", Due.line(x, "frame 0 1 1"), 0);
        due.is("greatest", Due.line(x, "frame 0 1 99"), 1);
        due.is("frame(0, 0, 1)", x.frame(0, 0, 1), 1);
        due.is("frame(0, 1, 1)", x.frame(0, 1, 1), 99);
    }

    private static void duesRise() {
        due.about("DUES of a PROGRAMME rise from FRAME to FRAME");
        StreamWeave x = Due.woven("frame 2 1 50", "frame 2 1 60");
        refused(x, STATE, "frame 2 1 60", "frame 2 1 59", "frame 2 1 50", "frame 2 1 55", "frame 2 1 1");
        due.is("told(2, 2)", x.told(2, 2), 2);
        due.is("one greater", Due.line(x, "frame 2 1 61"), 2);
        due.is("another's is free", Due.line(x, "frame 1 1 1"), 0);
        due.is("the greatest", Due.line(x, "frame 2 1 99"), 3);
        refused(x, STATE, "frame 2 1 99");
        due.is("swap", Due.line(x, "swap 2 0 60"), 1);
        refused(x, STATE, "frame 2 1 50");
        due.is("behind what stayed", Due.line(x, "frame 2 1 51"), 1);
        due.is("drop", Due.line(x, "drop 2"), 2);
        due.is("behind none", Due.line(x, "frame 2 1 1"), 0);
    }

    private static void table() {
        due.about("The TABLE is 0 to 50 (20 at first; 0: none)");
        StreamWeave x = new StreamWeave();
        due.is("count(1)", x.count(1), 20);
        due.is("sent(1)", x.sent(1), 5);
        due.is("greatest", Due.line(x, "table 50"), 20);
        due.is("sent(1)", x.sent(1), 2);
        refused(x, OUTSIDE, "table 51", "table 99");
        due.is("count(1)", x.count(1), 50);
        due.is("least but none", Due.line(x, "table 1"), 50);
        due.is("sent(1)", x.sent(1), 100);
        due.is("none", Due.line(x, "table 0"), 1);
        due.is("count(1)", x.count(1), 0);
        due.is("sent(1)", x.sent(1), 0);
    }

    private static void wide() {
        due.about("WIDE is 1 to 4 (1 at first)");
        StreamWeave x = new StreamWeave();
        due.is("count(0)", x.count(0), 1);
        due.is("greatest", Due.line(x, "wide 4"), 1);
        refused(x, OUTSIDE, "wide 0", "wide 00", "wide 5", "wide 99");
        due.is("count(0)", x.count(0), 4);
        due.is("least", Due.line(x, "wide 1"), 4);
        due.is("count(0)", x.count(0), 1);
    }

    private static void signs() {
        due.about("THE LINE has up to 20 signs");
        StreamWeave x = new StreamWeave();
        Due.type(x, "frame 00 01 01");
        due.is("fault() of the longest LINE", x.fault(), NONE);
        Due.type(x, "xyzxyz");
        due.is("count(3)", x.count(3), 20);
        due.is("fault()", x.fault(), 14);
        due.is("say", x.say(' '), FULL);
        due.is("count(3)", x.count(3), 20);
        due.is("line()", x.line(), FAULT);
        due.is("count(3)", x.count(3), 20);
        due.is("wipe()", x.wipe(), 20);
        due.is("the longest LINE", Due.line(x, "frame 00 01 01"), 0);
    }

    private static String numbers(int howMany) {
        return " 1 2 3 4".substring(0, 2 * howMany);
    }

    private static int faultOf(String text) {
        StreamWeave x = new StreamWeave();
        Due.type(x, text);
        return x.fault();
    }

    private static void faults(String text, int want) {
        due.is("fault() of '" + text + "'", faultOf(text), want);
    }

    private static void words() {
        due.about("WORDS");
        // Without their first sign frame and drop go on as room does at first, and swap as wide does.
        int[] beginsAnother = {1, 0, 0, 0, 0, 2, 1};
        for (int w = 0; w < WORDS.length; w++) {
            String word = WORDS[w];
            faults(word + numbers(NUMBERS[w]), NONE);
            faults(word.substring(1) + numbers(NUMBERS[w]), beginsAnother[w]);
            faults(word.toUpperCase() + numbers(NUMBERS[w]), 0);
            faults(word + "s" + numbers(NUMBERS[w]), word.length());
            faults(word.substring(0, word.length() - 1) + numbers(NUMBERS[w]), word.length() - 1);
            for (int k = 0; k < word.length(); k++) {
                faults(word.substring(0, k) + "z" + word.substring(k + 1) + numbers(NUMBERS[w]), k);
            }
        }
    }

    private static void asManyNumbers() {
        due.about("NUMBERS behind it, just as many as told");
        for (int w = 0; w < WORDS.length; w++) {
            for (int n = 0; n <= 4; n++) {
                String text = WORDS[w] + numbers(n);
                int behindLast = WORDS[w].length() + 2 * NUMBERS[w];
                faults(text, n == NUMBERS[w] ? NONE : Math.min(text.length(), behindLast));
            }
        }
    }

    private static void blanks() {
        due.about("a blank (32) ahead of each");
        faults("room1 2", 4);
        faults("room 1-2", 6);
        faults("room  1 2", 5);
        faults("room 1  2", 7);
        faults("room 10  2", 8);
        faults("room_1 2", 4);
        faults("room!1 2", 4);
        faults("table 5", NONE);
        faults("table5", 5);
        faults("table  5", 6);
        faults("swap 1 2,3", 8);
    }

    private static void nothingElse() {
        due.about("nothing else");
        for (int w = 0; w < WORDS.length; w++) {
            String text = WORDS[w] + numbers(NUMBERS[w]);
            faults(" " + text, 0);
            faults(text + " ", text.length());
            faults(text + ".", text.length());
            faults(text + "0 ", text.length() + 1);
            faults(text + "0x", text.length() + 1);
        }
    }

    private static void figures() {
        due.about("a NUMBER is one or two figures");
        faults("drop 0", NONE);
        faults("drop 9", NONE);
        faults("drop 00", NONE);
        faults("drop 99", NONE);
        faults("drop ", 5);
        faults("drop 000", 7);
        faults("drop 003", 7);
        faults("drop /", 5);
        faults("drop :", 5);
        faults("drop 0/", 6);
        faults("drop 9:", 6);
        faults("drop -1", 5);
        faults("drop +1", 5);
        faults("swap 000 1 1", 7);
        faults("swap 00 111 1", 10);
        faults("swap 00 11 111", 13);
        faults("swap 00 11 11", NONE);
    }

    private static void zeroAhead() {
        due.about("00 is 0, 07 is 7");
        StreamWeave x = new StreamWeave();
        due.is("table 07", Due.line(x, "table 07"), 20);
        due.is("table 00", Due.line(x, "table 00"), 7);
        due.is("table 10", Due.line(x, "table 10"), 0);
        due.is("table 08", Due.line(x, "table 08"), 10);
        due.is("table 49", Due.line(x, "table 49"), 8);
        due.is("count(1)", x.count(1), 49);
        due.is("frame", Due.line(x, "frame 03 09 01"), 0);
        due.is("frame(3, 0, 0)", x.frame(3, 0, 0), 9);
        due.is("frame(3, 0, 1)", x.frame(3, 0, 1), 1);
        due.is("swap", Due.line(x, "swap 00 03 01"), 1);
    }

    private static void dropAll() {
        due.about("drop p: all FRAMES of p go");
        StreamWeave x = Due.woven("room 1 3", "clock 1 4", "frame 0 1 9");
        due.is("none", Due.line(x, "drop 1"), 0);
        for (int f = 0; f < 10; f++) {
            Due.line(x, "frame 1 2 " + (f + 1));
        }
        due.is("ten", Due.line(x, "drop 1"), 10);
        due.is("told(1, 2)", x.told(1, 2), 0);
        due.is("told(1, 4)", x.told(1, 4), 0);
        due.is("told(1, 0)", x.told(1, 0), 3);
        due.is("told(1, 1)", x.told(1, 1), 4);
        due.is("told(0, 2)", x.told(0, 2), 1);
    }

    private static StreamWeave twoProgrammes() {
        return Due.woven("frame 0 1 10", "frame 0 2 20", "frame 0 3 30", "frame 1 4 19", "frame 1 5 20",
            "frame 1 6 21");
    }

    private static void swapGo() {
        due.about("all FRAMES of p with a DUE of t or greater go");
        int[] ticks = {1, 10, 11, 20, 21, 30, 31, 99};
        int[] stay = {0, 0, 1, 1, 2, 2, 3, 3};
        for (int k = 0; k < ticks.length; k++) {
            StreamWeave x = twoProgrammes();
            due.is("swap 0 2 " + ticks[k], Due.line(x, "swap 0 2 " + ticks[k]), stay[k]);
            due.is("told(0, 2)", x.told(0, 2), stay[k]);
            due.is("told(0, 3)", x.told(0, 3), stay[k] == 0 ? NONE : stay[k] * 10);
        }
    }

    private static void swapCome() {
        due.about("those of q with a DUE of t or greater come in their place");
        int[] ticks = {1, 19, 20, 21, 22, 99};
        int[] come = {3, 3, 2, 1, 0, 0};
        for (int k = 0; k < ticks.length; k++) {
            StreamWeave x = twoProgrammes();
            due.is("swap 3 1 " + ticks[k], Due.line(x, "swap 3 1 " + ticks[k]), come[k]);
            for (int f = 0; f < come[k]; f++) {
                due.is("frame(3, f, 0)", x.frame(3, f, 0), 7 - come[k] + f);
                due.is("frame(3, f, 1)", x.frame(3, f, 1), 22 - come[k] + f);
            }
        }
        StreamWeave x = twoProgrammes();
        due.is("swap 0 1 20", Due.line(x, "swap 0 1 20"), 3);
        due.is("frame(0, 0, 1)", x.frame(0, 0, 1), 10);
        due.is("frame(0, 1, 1)", x.frame(0, 1, 1), 20);
        due.is("frame(0, 1, 0)", x.frame(0, 1, 0), 5);
        due.is("frame(0, 2, 1)", x.frame(0, 2, 1), 21);
    }

    private static void swapStay() {
        due.about("those of q stay as they are");
        StreamWeave x = Due.woven("room 0 3", "clock 0 4", "room 1 5", "clock 1 6", "frame 1 4 19", "frame 1 5 20");
        Due.line(x, "swap 0 1 1");
        due.is("told(1, 2)", x.told(1, 2), 2);
        due.is("told(1, 4)", x.told(1, 4), 9);
        due.is("told(1, 3)", x.told(1, 3), 20);
        Due.line(x, "drop 0");
        due.is("told(1, 2) behind drop 0", x.told(1, 2), 2);
        int[] wants = {3, 4};
        for (int what = 0; what < 2; what++) {
            due.is("told(0, " + what + ")", x.told(0, what), wants[what]);
            due.is("told(1, " + what + ")", x.told(1, what), wants[what] + 2);
        }
    }

    private static void faultOfFirstSign() {
        due.about("FAULT: the place (0 is the first sign) of the first sign by which no LINE can begin");
        for (int w = 0; w < WORDS.length; w++) {
            String text = WORDS[w] + numbers(NUMBERS[w]);
            for (int k = 0; k < text.length(); k++) {
                faults(text.substring(0, k) + "~", k);
                faults(text.substring(0, k) + "~" + text.substring(k), k);
                faults(text.substring(0, k) + "~~ 1", k);
            }
        }
        faults("~", 0);
        faults("                    ", 0);
        faults("00000000000000000000", 0);
        faults("frame 11 22 33000000", 14);
        faults("frame 11 22 3 000000", 13);
    }

    private static void faultOfAnyNumbers() {
        due.about("whatever its NUMBERS are");
        faults("frame 99 99 99", NONE);
        faults("frame 0 0 0", NONE);
        faults("room 4 41", NONE);
        faults("clock 9 51", NONE);
        faults("table 99", NONE);
        faults("wide 0", NONE);
        faults("drop 4", NONE);
        faults("swap 1 1 0", NONE);
        faults("swap 1 1 ", 9);
        faults("wide 99x", 7);
    }

    private static void faultOfBeginning() {
        due.about("how many signs it has, if it is the beginning of a LINE, but none");
        faults("", 0);
        for (int w = 0; w < WORDS.length; w++) {
            String whole = WORDS[w] + numbers(NUMBERS[w]);
            String wholeOfTwo = whole.replaceAll("([0-9])", "0$1");
            for (int k = 0; k < whole.length(); k++) {
                faults(whole.substring(0, k), k);
            }
            for (int k = 0; k < wholeOfTwo.length() - 1; k++) {
                faults(wholeOfTwo.substring(0, k), k);
            }
            faults(wholeOfTwo.substring(0, wholeOfTwo.length() - 1), NONE);
            faults(wholeOfTwo, NONE);
            for (int k = 0; k < whole.length(); k++) {
                beginsAnew(whole, k);
            }
        }
    }

    /** What THE LINE had before it was wiped is nothing of it. */
    private static void beginsAnew(String whole, int length) {
        StreamWeave x = new StreamWeave();
        Due.type(x, whole);
        x.wipe();
        Due.type(x, whole.substring(0, length));
        due.is("fault() of '" + whole.substring(0, length) + "' behind wipe", x.fault(), length);
    }

    private static void firstRefusal() {
        due.about("Calls that are refused answer the first that fits, in the order told with the call");
        StreamWeave x = new StreamWeave();
        for (int f = 0; f < 10; f++) {
            Due.line(x, "frame 0 1 " + (f + 11));
        }
        refused(x, FULL, "frame 0 1 21");
        refused(x, STATE, "frame 0 1 20", "frame 0 1 1");
        refused(x, OUTSIDE, "frame 0 0 21", "frame 0 10 20", "frame 0 1 0", "swap 0 0 1");
        refused(x, FAULT, "frame 0 1 21 ", "frame 0 1 20 ", "frame 0 0 21 ", "frame 4 0 0 0", "frame 0 1 210");
        x.wipe();
        Due.type(x, "aaaaaaaaaaaaaaaaaaaa");
        due.is("say(31) at 20", x.say(31), OUTSIDE);
        due.is("say(127) at 20", x.say(127), OUTSIDE);
        due.is("say(32) at 20", x.say(32), FULL);
        due.is("restore(2), none kept", x.restore(2), OUTSIDE);
        due.is("restore(-1), none kept", x.restore(-1), OUTSIDE);
    }

    private static void noneBehindRefusals() {
        due.about("NONE -6 is answered only where no refusal fits");
        StreamWeave x = new StreamWeave();
        due.is("written(0, 0, -2), no FRAME", x.written(0, 0, -2), OUTSIDE);
        due.is("written(4, -1, 99)", x.written(4, -1, 99), OUTSIDE);
        due.is("written(0, 0, -1), no FRAME", x.written(0, 0, -1), NONE);
        due.is("told(4, 3)", x.told(4, 3), OUTSIDE);
        due.is("told(3, 3)", x.told(3, 3), NONE);
        due.is("packet(100, 0, 1)", x.packet(100, 0, 1), OUTSIDE);
        due.is("packet(99, 1, 1)", x.packet(99, 1, 1), OUTSIDE);
        due.is("packet(99, 0, 1)", x.packet(99, 0, 1), NONE);
        due.is("frame(0, 0, 6), no FRAME", x.frame(0, 0, 6), OUTSIDE);
        due.is("frame(0, -1, -1)", x.frame(0, -1, -1), OUTSIDE);
        due.is("frame(4, -1, 0)", x.frame(4, -1, 0), OUTSIDE);
        due.is("frame(0, 0, 5), no FRAME", x.frame(0, 0, 5), NONE);
        Due.line(x, "frame 0 9 1");
        due.is("room(4), late", x.room(4), OUTSIDE);
        due.is("room(0), late", x.room(0), NONE);
    }

    /** A rich object; what it has typed is the text, and it has kept image 0. */
    private static StreamWeave rich(String text) {
        StreamWeave x = Due.woven("frame 1 9 3", "frame 1 2 8");
        x.image(0);
        for (String more : new String[] {"wide 3", "table 6", "clock 1 4", "room 2 3", "frame 2 9 12",
            "frame 3 1 98", "frame 3 1 99"}) {
            Due.line(x, more);
        }
        for (int f = 0; f < 10; f++) {
            Due.line(x, "frame 0 1 " + (60 + f));
        }
        Due.type(x, text);
        return x;
    }

    /** What an object answers to all that can be asked of it, without changing it. */
    private static List<Integer> answers(StreamWeave x) {
        List<Integer> answers = new ArrayList<>(List.of(x.fault(), x.needs()));
        for (int what = 0; what < 8; what++) {
            answers.add(x.sent(what));
            answers.add(x.count(what));
        }
        for (int p = 0; p < 4; p++) {
            answers.addAll(List.of(x.most(p), x.room(p), x.without(p), x.written(p, 0, 8), x.written(p, 1, 10)));
            for (int what = 0; what < 6; what++) {
                answers.add(x.told(p, what));
                answers.add(x.frame(p, 0, what));
            }
            for (int tick = 1; tick < 9; tick++) {
                answers.addAll(List.of(x.held(p, tick), x.packet(tick, 0, p), x.packet(tick, 1, p)));
            }
        }
        return answers;
    }

    private static void changesNothing(String call, String text, int want, ToIntFunction<StreamWeave> refused) {
        StreamWeave x = rich(text);
        StreamWeave untouched = rich(text);
        due.is(call, refused.applyAsInt(x), want);
        if (want == FAULT) {
            // The place of the FAULT alone changes, so that of the other one is made the same.
            due.is("count(4) behind " + call, x.count(4), x.fault());
            untouched.line();
        }
        due.is("changed by " + call, answers(x).equals(answers(untouched)) ? 0 : 1, 0);
        due.is("restore(1) behind " + call, x.restore(1), STATE);
        due.is("restore(0) behind " + call, x.restore(0), 1);
        due.is("told(1, 4) of the image behind " + call, x.told(1, 4), 11);
        due.is("count(2) of the image behind " + call, x.count(2), 2);
    }

    private static void refusedChangesNothing() {
        due.about("What is refused changes nothing but the place of the FAULT");
        for (String text : new String[] {"", "t", "room 4 1x", "frame 1 1 9 ", "frame 1 1 100", "wide"}) {
            changesNothing("line() of '" + text + "'", text, FAULT, StreamWeave::line);
        }
        for (String text : new String[] {"frame 1 0 20", "frame 4 1 20", "frame 1 10 20", "frame 1 1 0", "room 1 0",
            "room 1 41", "room 4 1", "clock 2 51", "clock 4 1", "table 51", "wide 0", "wide 5", "drop 4", "swap 1 1 1",
            "swap 1 2 0", "swap 4 1 1", "swap 1 4 1"}) {
            changesNothing("line() of '" + text + "'", text, OUTSIDE, StreamWeave::line);
        }
        for (String text : new String[] {"frame 1 1 8", "frame 2 1 1", "frame 0 1 69"}) {
            changesNothing("line() of '" + text + "'", text, STATE, StreamWeave::line);
        }
        for (String text : new String[] {"frame 0 1 70", "swap 0 3 70", "swap 0 3 69"}) {
            changesNothing("line() of '" + text + "'", text, FULL, StreamWeave::line);
        }
        changesNothing("say(31)", "table 5", OUTSIDE, x -> x.say(31));
        changesNothing("say(127)", "table 5", OUTSIDE, x -> x.say(127));
        changesNothing("say(48) at 20", "table 5aaaaaaaaaaaaa", FULL, x -> x.say(48));
        changesNothing("image(2)", "table 5", OUTSIDE, x -> x.image(2));
        changesNothing("image(-1)", "table 5", OUTSIDE, x -> x.image(-1));
        changesNothing("restore(2)", "table 5", OUTSIDE, x -> x.restore(2));
        changesNothing("restore(-1)", "table 5", OUTSIDE, x -> x.restore(-1));
        changesNothing("restore(1)", "table 5", STATE, x -> x.restore(1));
        changesNothing("without(4)", "table 5", OUTSIDE, x -> x.without(4));
        changesNothing("room(4)", "table 5", OUTSIDE, x -> x.room(4));
    }

    private static void asThingsAre() {
        due.about("All that is told is as things are when it is asked");
        StreamWeave x = Due.woven("table 0", "frame 0 2 2");
        due.is("sent(3)", x.sent(3), 2);
        due.is("frame(0, 0, 5)", x.frame(0, 0, 5), 1);
        Due.line(x, "table 1");
        due.is("sent(3) behind table", x.sent(3), 0);
        Due.line(x, "wide 2");
        due.is("sent(3) behind wide", x.sent(3), 2);
        Due.line(x, "clock 1 1");
        due.is("sent(3) behind clock", x.sent(3), 0);
        Due.line(x, "wide 4");
        due.is("held(0, 0)", x.held(0, 0), 2);
        x.image(0);
        Due.line(x, "room 0 1");
        due.is("held(0, 0) behind room", x.held(0, 0), 1);
        due.is("most(0)", x.most(0), 1);
        Due.line(x, "frame 2 1 1");
        due.is("sent(4) behind frame", x.sent(4), 1);
        Due.line(x, "swap 0 2 1");
        due.is("frame(0, 0, 5) behind swap", x.frame(0, 0, 5), 1);
        Due.line(x, "drop 2");
        due.is("sent(4) behind drop", x.sent(4), 1);
        x.restore(0);
        due.is("held(0, 0) behind restore", x.held(0, 0), 2);
        x.needs();
        due.is("held(0, 0) behind needs", x.held(0, 0), 2);
        x.room(0);
        due.is("packet(0, 3, 0) behind room", x.packet(0, 3, 0), 3);
        x.without(0);
        due.is("frame(0, 0, 2) behind without", x.frame(0, 0, 2), 2);
        x.without(0);
        due.is("sent(3) behind without", x.sent(3), 2);
        x.without(0);
        due.is("most(0) behind without", x.most(0), 2);
        asThingsAreWovenAnew();
    }

    private static void asThingsAreWovenAnew() {
        StreamWeave x = Due.woven("table 9", "clock 0 5", "frame 0 9 3", "frame 0 1 50", "frame 2 1 1");
        int[] sent = {66, 12, 20, 2, 1, 2, 9, 1};
        int[] counters = {0, 0, 1, 2};
        for (String again : new String[] {"table 9", "room 3 1", "drop 1"}) {
            for (int what = 0; what < 8; what++) {
                due.is("sent(" + what + ") ahead of " + again, x.sent(what), sent[what]);
            }
            for (int tick = 0; tick < 4; tick++) {
                due.is("packet(" + tick + ", 0, 3) ahead of " + again, x.packet(tick, 0, 3), counters[tick]);
            }
            Due.line(x, again);
            x.without(3);
            x.room(0);
        }
    }
}
