/** The bounds in part 2 of the document's Terms, THE STREAM: a test for each sentence. */
public final class BoundsOfStreamTest {
    private static final int NONE = StreamWeave.NONE;
    private static final int STUFFING = 0, TABLE = 1, CLOCK = 2, OF_FRAME = 3;
    private static final Due due = new Due();

    public static void main(String[] args) {
        ticks();
        eachOfThisDue();
        shown();
        late();
        neverSent();
        heldNoMore();
        heldNoMoreAheadOfSending();
        asManyAsWide();
        firstThatCanBe();
        tableNotNone();
        tableNoneSentYet();
        tableTicksAgo();
        clockLeastProgramme();
        clockNotNone();
        clockNoneSentYet();
        clockTicksAgo();
        dueGreaterThanTick();
        notAllSent();
        fewerThanRoom();
        leastDue();
        leastProgramme();
        heldThen();
        stuffing();
        counterOfProgramme();
        counterModulo();
        counterOfTable();
        counterOfStuffing();
        due.end();
    }

    /** What is sent in the first places of the ticks from a tick on. */
    private static void kinds(StreamWeave x, int from, int... wants) {
        for (int k = 0; k < wants.length; k++) {
            due.is("packet(" + (from + k) + ", 0, 0)", x.packet(from + k, 0, 0), wants[k]);
        }
    }

    private static void programmes(StreamWeave x, int from, int... wants) {
        for (int k = 0; k < wants.length; k++) {
            due.is("packet(" + (from + k) + ", 0, 1)", x.packet(from + k, 0, 1), wants[k]);
        }
    }

    private static void frames(StreamWeave x, int from, int... wants) {
        for (int k = 0; k < wants.length; k++) {
            due.is("packet(" + (from + k) + ", 0, 2)", x.packet(from + k, 0, 2), wants[k]);
        }
    }

    private static void held(StreamWeave x, int p, int from, int... wants) {
        for (int k = 0; k < wants.length; k++) {
            due.is("held(" + p + ", " + (from + k) + ")", x.held(p, from + k), wants[k]);
        }
    }

    private static void ticks() {
        due.about("THE STREAM goes from TICK 0 to 99");
        StreamWeave x = Due.woven("table 33");
        due.is("sent(1)", x.sent(1), 4);
        due.is("packet(0, 0, 0)", x.packet(0, 0, 0), TABLE);
        due.is("packet(99, 0, 0)", x.packet(99, 0, 0), TABLE);
        for (int wide = 1; wide <= 4; wide++) {
            Due.line(x, "wide " + wide);
            due.is("PACKETS in all", x.sent(0) + x.sent(1) + x.sent(2) + x.sent(3), 100 * wide);
        }
        StreamWeave first = Due.woven("table 0", "frame 0 1 1");
        due.is("frame(0, 0, 3) of DUE 1", first.frame(0, 0, 3), 0);
        due.is("frame(0, 0, 5) of DUE 1", first.frame(0, 0, 5), 1);
        StreamWeave last = Due.woven("table 0", "room 0 1", "frame 0 1 98", "frame 0 2 99", "frame 1 9 99");
        due.is("frame(0, 1, 3) of DUE 99", last.frame(0, 1, 3), 98);
        due.is("frame(0, 1, 5) of DUE 99", last.frame(0, 1, 5), 0);
        due.is("frame(1, 0, 5) of DUE 99", last.frame(1, 0, 5), 1);
        due.is("sent(7)", last.sent(7), 99);
        due.is("held(1, 98)", last.held(1, 98), 9);
        due.is("held(1, 99)", last.held(1, 99), 0);
    }

    private static void eachOfThisDue() {
        due.about("Of each PROGRAMME that has a FRAME of this DUE");
        StreamWeave x = Due.woven("table 0", "wide 2", "frame 0 4 5", "frame 1 4 5", "frame 2 3 5", "frame 3 1 5");
        int[] shown = {1, 1, 0, 0};
        int[] heldBefore = {4, 4, 2, 0};
        for (int p = 0; p < 4; p++) {
            due.is("frame(" + p + ", 0, 5)", x.frame(p, 0, 5), shown[p]);
            held(x, p, 4, heldBefore[p], 0);
        }
        due.is("sent(4)", x.sent(4), 2);
        due.is("sent(5)", x.sent(5), 2);
    }

    private static void shown() {
        due.about("that is SHOWN, if all its PACKETS were sent");
        StreamWeave x = Due.woven("table 0", "frame 0 1 1", "frame 0 2 3", "frame 0 9 12");
        for (int f = 0; f < 3; f++) {
            due.is("frame(0, " + f + ", 5)", x.frame(0, f, 5), 1);
        }
        due.is("frame(0, 2, 4), just ahead of its DUE", x.frame(0, 2, 4), 11);
        due.is("sent(4)", x.sent(4), 3);
        due.is("sent(5)", x.sent(5), 0);
    }

    private static void late() {
        due.about("else it is LATE");
        StreamWeave x = Due.woven("table 0", "frame 0 2 1", "frame 0 3 3", "frame 0 1 12");
        int[] shown = {0, 0, 1};
        int[] sent = {1, 2, 1};
        for (int f = 0; f < 3; f++) {
            due.is("frame(0, " + f + ", 5)", x.frame(0, f, 5), shown[f]);
            due.is("frame(0, " + f + ", 2)", x.frame(0, f, 2), sent[f]);
        }
        due.is("sent(4)", x.sent(4), 1);
        due.is("sent(5)", x.sent(5), 2);
        due.is("sent(7)", x.sent(7), 1);
        StreamWeave none = Due.woven("table 1", "frame 3 1 99");
        due.is("frame(3, 0, 5), none sent", none.frame(3, 0, 5), 0);
        due.is("sent(5), none sent", none.sent(5), 1);
    }

    private static void neverSent() {
        due.about("those of its PACKETS that were not sent never are");
        StreamWeave x = Due.woven("table 0", "frame 0 9 3", "frame 0 1 9");
        kinds(x, 0, OF_FRAME, OF_FRAME, OF_FRAME, OF_FRAME, STUFFING, STUFFING);
        frames(x, 0, 0, 0, 0, 1, NONE, NONE);
        due.is("sent(3)", x.sent(3), 4);
        due.is("sent(6)", x.sent(6), 6);
        due.is("frame(0, 0, 2)", x.frame(0, 0, 2), 3);
        due.is("frame(0, 0, 4)", x.frame(0, 0, 4), 2);
    }

    private static void heldNoMore() {
        due.about("All PACKETS of it that were sent are HELD no more");
        // The first FRAME is SHOWN, the second one LATE, and of the third one 2 are HELD meanwhile.
        StreamWeave x = Due.woven("table 0", "wide 2", "frame 0 4 2", "frame 0 5 4", "frame 0 2 6");
        held(x, 0, 0, 2, 4, 2, 4, 2, 2, 0, 0);
        StreamWeave y = Due.woven("table 0", "frame 0 1 4", "frame 0 1 6");
        held(y, 0, 0, 1, 2, 2, 2, 1, 1, 0, 0);
    }

    private static void heldNoMoreAheadOfSending() {
        due.about("At each TICK, in this order: (a), (b)");
        StreamWeave x = Due.woven("table 0", "room 0 1", "frame 0 1 3", "frame 0 1 4", "frame 0 1 5");
        frames(x, 0, 0, NONE, NONE, 1, 2, NONE);
        held(x, 0, 0, 1, 1, 1, 1, 1, 0);
        due.is("sent(4)", x.sent(4), 3);
    }

    private static void asManyAsWide() {
        due.about("As many PACKETS as WIDE are sent");
        for (int wide = 1; wide <= 4; wide++) {
            StreamWeave x = Due.woven("table 0", "room 0 40", "wide " + wide, "frame 0 9 40", "frame 0 9 50");
            for (int tick = 0; tick * wide < 18; tick++) {
                due.is("held(0, " + tick + ") of WIDE " + wide, x.held(0, tick), Math.min(18, wide * (tick + 1)));
            }
        }
    }

    private static void firstThatCanBe() {
        due.about("each being the first of these that can be");
        StreamWeave x = Due.woven("clock 3 20", "frame 0 1 20");
        kinds(x, 0, TABLE, CLOCK, OF_FRAME, STUFFING);
        kinds(x, 20, TABLE, CLOCK, STUFFING);
        Due.line(x, "wide 4");
        for (int i = 0; i < 4; i++) {
            due.is("packet(0, " + i + ", 0)", x.packet(0, i, 0), new int[] {TABLE, CLOCK, OF_FRAME, STUFFING}[i]);
            due.is("packet(20, " + i + ", 0)", x.packet(20, i, 0), new int[] {TABLE, CLOCK, STUFFING, STUFFING}[i]);
        }
    }

    private static void tableNotNone() {
        due.about("1 a TABLE, if TABLE is not 0");
        StreamWeave x = Due.woven("table 0", "wide 2");
        due.is("sent(1) of TABLE 0", x.sent(1), 0);
        due.is("packet(0, 0, 0) of TABLE 0", x.packet(0, 0, 0), STUFFING);
        Due.line(x, "table 1");
        due.is("sent(1) of TABLE 1", x.sent(1), 100);
    }

    private static void tableNoneSentYet() {
        due.about("a TABLE, .. and none was sent yet");
        for (int table : new int[] {1, 20, 49, 50}) {
            StreamWeave x = Due.woven("table " + table, "clock 0 1", "frame 0 1 1");
            due.is("packet(0, 0, 0) of TABLE " + table, x.packet(0, 0, 0), TABLE);
        }
    }

    private static void tableTicksAgo() {
        due.about("or the last one was sent TABLE TICKS ago or more");
        StreamWeave x = Due.woven("table 7");
        kinds(x, 0, TABLE, STUFFING, STUFFING, STUFFING, STUFFING, STUFFING, STUFFING, TABLE, STUFFING);
        kinds(x, 13, STUFFING, TABLE, STUFFING);
        kinds(x, 97, STUFFING, TABLE, STUFFING);
        due.is("sent(1)", x.sent(1), 15);
        Due.line(x, "table 50");
        kinds(x, 49, STUFFING, TABLE, STUFFING);
        kinds(x, 99, STUFFING);
        Due.line(x, "table 1");
        Due.line(x, "wide 4");
        due.is("sent(1), one at each TICK", x.sent(1), 100);
        due.is("packet(50, 1, 0)", x.packet(50, 1, 0), STUFFING);
    }

    private static void clockLeastProgramme() {
        due.about("2 a CLOCK of the least PROGRAMME");
        StreamWeave x = Due.woven("table 0", "clock 3 10", "clock 1 10", "clock 2 10", "clock 0 10");
        programmes(x, 0, 0, 1, 2, 3, NONE);
        programmes(x, 9, NONE, 0, 1, 2, 3, NONE);
        Due.line(x, "clock 0 1");
        due.is("sent(2), the least goes ahead always", x.sent(2), 100);
        programmes(x, 0, 0, 0, 0, 0);
    }

    private static void clockNotNone() {
        due.about("whose CLOCK is not 0");
        StreamWeave x = Due.woven("table 0", "clock 2 1", "frame 0 1 1", "frame 1 1 1");
        programmes(x, 0, 2, 2, 2);
        due.is("sent(2)", x.sent(2), 100);
        Due.line(x, "clock 2 0");
        due.is("sent(2)", x.sent(2), 0);
        kinds(x, 0, OF_FRAME, STUFFING);
    }

    private static void clockNoneSentYet() {
        due.about("a CLOCK, .. and that has sent none yet");
        StreamWeave x = Due.woven("table 0", "clock 1 50", "clock 3 50", "frame 0 1 1");
        kinds(x, 0, CLOCK, CLOCK, STUFFING);
        programmes(x, 0, 1, 3);
        StreamWeave y = Due.woven("table 1", "wide 2", "clock 0 2", "clock 1 50");
        due.is("packet(0, 1, 1)", y.packet(0, 1, 1), 0);
        due.is("packet(1, 1, 1)", y.packet(1, 1, 1), 1);
    }

    private static void clockTicksAgo() {
        due.about("or the last one CLOCK TICKS ago or more");
        StreamWeave x = Due.woven("table 0", "clock 0 4");
        kinds(x, 0, CLOCK, STUFFING, STUFFING, STUFFING, CLOCK, STUFFING, STUFFING, STUFFING, CLOCK, STUFFING);
        Due.line(x, "clock 0 50");
        kinds(x, 49, STUFFING, CLOCK, STUFFING);
        Due.line(x, "clock 0 1");
        Due.line(x, "wide 4");
        due.is("sent(2), one at each TICK", x.sent(2), 100);
        // A CLOCK that had to wait is sent when more than CLOCK TICKS are gone, and counts from there.
        StreamWeave y = Due.woven("table 5", "clock 0 4");
        kinds(y, 0, TABLE, CLOCK, STUFFING, STUFFING, STUFFING, TABLE, CLOCK, STUFFING, STUFFING, STUFFING, TABLE);
        kinds(y, 11, CLOCK);
        StreamWeave z = Due.woven("table 3", "clock 0 2");
        kinds(z, 0, TABLE, CLOCK, STUFFING, TABLE, CLOCK, STUFFING, TABLE, CLOCK);
    }

    private static void dueGreaterThanTick() {
        due.about("3 its first FRAME whose DUE is greater than this TICK");
        StreamWeave x = Due.woven("table 0", "frame 0 9 1", "frame 0 9 3", "frame 0 9 4", "frame 0 1 9");
        frames(x, 0, 0, 1, 1, 2, 3, NONE);
        StreamWeave last = Due.woven("table 0", "frame 2 9 98", "frame 2 9 99", "room 2 1");
        due.is("packet(98, 0, 2)", last.packet(98, 0, 2), 1);
        due.is("packet(99, 0, 0)", last.packet(99, 0, 0), STUFFING);
    }

    private static void notAllSent() {
        due.about("of which not all PACKETS were sent");
        StreamWeave x = Due.woven("table 0", "frame 0 1 20", "frame 0 2 30", "frame 0 1 40");
        frames(x, 0, 0, 1, 1, 2, NONE);
        Due.line(x, "wide 4");
        for (int i = 0; i < 4; i++) {
            due.is("packet(0, " + i + ", 2)", x.packet(0, i, 2), new int[] {0, 1, 1, 2}[i]);
        }
        StreamWeave whole = Due.woven("table 0", "frame 0 9 20", "frame 1 1 21");
        programmes(whole, 8, 0, 1, NONE);
    }

    private static void fewerThanRoom() {
        due.about("counts, if it HOLDS fewer PACKETS than its ROOM");
        for (int room : new int[] {1, 2, 8, 9, 10, 17, 18, 40}) {
            StreamWeave x = Due.woven("table 0", "room 3 " + room, "frame 3 9 50", "frame 3 9 60");
            int most = Math.min(room, 18);
            due.is("held(3, 49) of ROOM " + room, x.held(3, 49), most);
            due.is("held(3, " + (most - 1) + ")", x.held(3, most - 1), most);
            kinds(x, most - 1, OF_FRAME, STUFFING);
        }
        // A CLOCK is not HELD, and goes whatever is HELD.
        StreamWeave clock = Due.woven("table 0", "room 0 1", "clock 0 2", "frame 0 9 9");
        kinds(clock, 0, CLOCK, OF_FRAME, CLOCK, STUFFING, CLOCK, STUFFING);
        held(clock, 0, 0, 0, 1, 1, 1);
        // The ROOM is a PROGRAMME's own: one that is full lets another one go.
        StreamWeave two = Due.woven("table 0", "room 0 2", "room 1 3", "frame 0 9 9", "frame 1 9 19");
        programmes(two, 0, 0, 0, 1, 1, 1, NONE, NONE, NONE, NONE, NONE);
    }

    private static void leastDue() {
        due.about("that of the least DUE");
        StreamWeave x = Due.woven("table 0", "frame 0 1 13", "frame 1 1 12", "frame 2 1 11", "frame 3 1 10");
        programmes(x, 0, 3, 2, 1, 0, NONE);
        StreamWeave y = Due.woven("table 0", "frame 0 2 99", "frame 1 1 98");
        programmes(y, 0, 1, 0, 0, NONE);
        StreamWeave first = Due.woven("table 0", "frame 0 1 5", "frame 0 1 8", "frame 1 1 6", "frame 1 1 7");
        programmes(first, 0, 0, 1, 1, 0, NONE);
    }

    private static void leastProgramme() {
        due.about("of such of the least PROGRAMME");
        StreamWeave x = Due.woven("table 0", "frame 3 1 20", "frame 1 2 20", "frame 2 1 20", "frame 0 1 20");
        programmes(x, 0, 0, 1, 1, 2, 3, NONE);
        StreamWeave late = Due.woven("table 0", "frame 1 1 1", "frame 0 1 1");
        due.is("frame(0, 0, 5)", late.frame(0, 0, 5), 1);
        due.is("frame(1, 0, 5)", late.frame(1, 0, 5), 0);
    }

    private static void heldThen() {
        due.about("the PACKET is HELD then");
        StreamWeave x = Due.woven("table 0", "wide 4", "room 0 3", "frame 0 9 9", "frame 1 9 10");
        for (int i = 0; i < 4; i++) {
            due.is("packet(0, " + i + ", 1)", x.packet(0, i, 1), i < 3 ? 0 : 1);
        }
        held(x, 0, 0, 3, 3);
        held(x, 1, 0, 1, 5);
        StreamWeave one = Due.woven("table 0", "wide 4", "room 0 1", "frame 0 9 9");
        due.is("held(0, 0)", one.held(0, 0), 1);
        due.is("packet(0, 1, 0)", one.packet(0, 1, 0), STUFFING);
    }

    private static void stuffing() {
        due.about("4 a STUFFING");
        StreamWeave x = Due.woven("table 0");
        due.is("sent(0)", x.sent(0), 100);
        Due.line(x, "wide 4");
        due.is("sent(0)", x.sent(0), 400);
        Due.line(x, "table 1");
        due.is("sent(0)", x.sent(0), 300);
        for (int p = 0; p < 3; p++) {
            Due.line(x, "clock " + p + " 1");
        }
        due.is("sent(0)", x.sent(0), 0);
    }

    private static void counterOfProgramme() {
        due.about("each CLOCK and each PACKET of a FRAME of one PROGRAMME has as COUNTER how many of these "
            + "of that PROGRAMME were sent before it");
        StreamWeave x = Due.woven("table 0", "clock 0 3", "frame 0 3 20", "frame 1 2 10");
        int[] programmes = {0, 1, 1, 0, 0, 0, 0, 0, NONE, 0};
        int[] counters = {0, 0, 1, 1, 2, 3, 4, 5, 0, 6};
        for (int tick = 0; tick < 10; tick++) {
            due.is("packet(" + tick + ", 0, 1)", x.packet(tick, 0, 1), programmes[tick]);
            due.is("packet(" + tick + ", 0, 3)", x.packet(tick, 0, 3), counters[tick]);
        }
    }

    private static void counterModulo() {
        due.about("modulo 16");
        StreamWeave frames = Due.woven("table 0", "room 2 40", "frame 2 9 70", "frame 2 9 80", "frame 2 9 90",
            "frame 2 9 91");
        StreamWeave clocks = Due.woven("table 0", "clock 1 1");
        for (int tick = 0; tick < 36; tick++) {
            due.is("of a FRAME, packet(" + tick + ", 0, 3)", frames.packet(tick, 0, 3), tick % 16);
            due.is("of a CLOCK, packet(" + tick + ", 0, 3)", clocks.packet(tick, 0, 3), tick % 16);
        }
        due.is("packet(99, 0, 3)", clocks.packet(99, 0, 3), 3);
        StreamWeave both = Due.woven("table 0", "clock 2 2", "frame 2 9 70");
        int[] counters = {14, 15, 0, 1};
        for (int k = 0; k < 4; k++) {
            due.is("of both, packet(" + (14 + k) + ", 0, 3)", both.packet(14 + k, 0, 3), counters[k]);
        }
    }

    private static void counterOfTable() {
        due.about("a TABLE how many TABLES were, modulo 16");
        StreamWeave x = Due.woven("table 3", "clock 0 1", "frame 0 1 9");
        for (int k = 0; k < 34; k++) {
            due.is("packet(" + 3 * k + ", 0, 3)", x.packet(3 * k, 0, 3), k % 16);
        }
    }

    private static void counterOfStuffing() {
        due.about("a STUFFING 0");
        StreamWeave x = Due.woven("wide 4", "clock 0 2", "frame 0 3 9");
        int[] last = {0, 1, 2, 39, 40, 99};
        for (int tick : last) {
            due.is("packet(" + tick + ", 3, 0)", x.packet(tick, 3, 0), tick == 0 ? OF_FRAME : STUFFING);
            due.is("packet(" + tick + ", 3, 3)", x.packet(tick, 3, 3), tick == 0 ? 2 : 0);
        }
    }
}
