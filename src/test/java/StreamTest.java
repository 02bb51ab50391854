/** Promises 8 to 18: the stream, how wide and how much room it needs, images and counts. */
public final class StreamTest {
    private static final int NONE = StreamWeave.NONE;
    private static final int OUTSIDE = StreamWeave.OUTSIDE;
    private static final Due due = new Due();

    public static void main(String[] args) {
        packetKinds();
        packetOrder();
        packetCounters();
        packetOutside();
        held();
        frame();
        sent();
        most();
        needs();
        room();
        without();
        images();
        count();
        due.end();
    }

    private static void packetIs(StreamWeave x, int tick, int i, int[] wants) {
        for (int what = 0; what < 4; what++) {
            due.is("packet(" + tick + ", " + i + ", " + what + ")", x.packet(tick, i, what), wants[what]);
        }
    }

    private static void packetKinds() {
        due.about("8 packet, kinds");
        StreamWeave x = Due.woven("wide 4", "clock 1 10", "frame 1 1 5");
        packetIs(x, 0, 0, new int[] {1, NONE, NONE, 0});
        packetIs(x, 0, 1, new int[] {2, 1, NONE, 0});
        packetIs(x, 0, 2, new int[] {3, 1, 0, 1});
        packetIs(x, 0, 3, new int[] {0, NONE, NONE, 0});
        packetIs(x, 9, 0, new int[] {0, NONE, NONE, 0});
        packetIs(x, 10, 0, new int[] {2, 1, NONE, 2});
        packetIs(x, 20, 0, new int[] {1, NONE, NONE, 1});
        packetIs(x, 20, 1, new int[] {2, 1, NONE, 3});
        packetIs(x, 99, 3, new int[] {0, NONE, NONE, 0});
    }

    private static void packetOrder() {
        due.about("8 packet, order");
        StreamWeave x = Due.woven("table 0", "frame 2 1 5", "frame 1 1 4", "frame 3 1 4", "frame 0 1 6", "frame 1 1 5");
        int[] programmes = {1, 3, 1, 2};
        int[] frames = {0, 0, 1, 0};
        for (int tick = 0; tick < 4; tick++) {
            packetIs(x, tick, 0, new int[] {3, programmes[tick], frames[tick], tick == 2 ? 1 : 0});
        }
        packetIs(x, 4, 0, new int[] {3, 0, 0, 0});
        packetIs(x, 5, 0, new int[] {0, NONE, NONE, 0});
        // No packet is sent at the tick of its due or behind it.
        StreamWeave y = Due.woven("table 0", "frame 0 3 2", "frame 0 1 4");
        packetIs(y, 1, 0, new int[] {3, 0, 0, 1});
        packetIs(y, 2, 0, new int[] {3, 0, 1, 2});
        packetIs(y, 3, 0, new int[] {0, NONE, NONE, 0});
        // A clock that waits is sent as soon as it can be, and counts from there.
        StreamWeave z = Due.woven("table 1", "clock 0 3", "wide 1");
        due.is("sent(1)", z.sent(1), 100);
        due.is("sent(2)", z.sent(2), 0);
        Due.line(z, "table 2");
        packetIs(z, 1, 0, new int[] {2, 0, NONE, 0});
        packetIs(z, 3, 0, new int[] {0, NONE, NONE, 0});
        packetIs(z, 4, 0, new int[] {1, NONE, NONE, 2});
        packetIs(z, 5, 0, new int[] {2, 0, NONE, 1});
        // A programme that is full lets another one go first.
        StreamWeave w = Due.woven("table 0", "room 0 1", "frame 0 2 5", "frame 1 1 9");
        packetIs(w, 0, 0, new int[] {3, 0, 0, 0});
        packetIs(w, 1, 0, new int[] {3, 1, 0, 0});
        packetIs(w, 2, 0, new int[] {0, NONE, NONE, 0});
    }

    private static void packetCounters() {
        due.about("8 packet, counters");
        for (int tick = 0; tick < 100; tick++) {
            StreamWeave x = Due.woven("table 1", "wide 3", "clock 0 1", "clock 2 1");
            packetIs(x, tick, 0, new int[] {1, NONE, NONE, tick % 16});
            packetIs(x, tick, 1, new int[] {2, 0, NONE, tick % 16});
            packetIs(x, tick, 2, new int[] {2, 2, NONE, tick % 16});
        }
        StreamWeave y = Due.woven("table 0", "clock 0 2", "frame 0 9 40", "frame 0 9 50", "room 0 40");
        for (int tick = 0; tick < 20; tick++) {
            due.is("packet(" + tick + ", 0, 3)", y.packet(tick, 0, 3), tick % 16);
            due.is("packet(" + tick + ", 0, 0)", y.packet(tick, 0, 0), tick % 2 == 0 ? 2 : 3);
        }
    }

    private static void packetOutside() {
        due.about("8 packet, OUTSIDE");
        StreamWeave x = Due.woven("wide 2");
        due.is("packet(-1, 0, 0)", x.packet(-1, 0, 0), OUTSIDE);
        due.is("packet(100, 0, 0)", x.packet(100, 0, 0), OUTSIDE);
        due.is("packet(0, -1, 0)", x.packet(0, -1, 0), OUTSIDE);
        due.is("packet(0, 2, 0)", x.packet(0, 2, 0), OUTSIDE);
        due.is("packet(0, 0, -1)", x.packet(0, 0, -1), OUTSIDE);
        due.is("packet(0, 0, 4)", x.packet(0, 0, 4), OUTSIDE);
        due.is("packet(99, 1, 0)", x.packet(99, 1, 0), 0);
        Due.line(x, "wide 1");
        due.is("packet(99, 1, 0)", x.packet(99, 1, 0), OUTSIDE);
        due.is("packet(greatest)", x.packet(Integer.MAX_VALUE, Integer.MAX_VALUE, 0), OUTSIDE);
    }

    private static void held() {
        due.about("9 held");
        StreamWeave x = Due.woven("table 0", "frame 1 2 3", "frame 1 2 6", "clock 1 50");
        int[] wants = {0, 1, 2, 1, 2, 2, 0, 0};
        for (int tick = 0; tick < wants.length; tick++) {
            due.is("held(1, " + tick + ")", x.held(1, tick), wants[tick]);
            due.is("held(0, " + tick + ")", x.held(0, tick), 0);
        }
        due.is("held(1, 99)", x.held(1, 99), 0);
        due.is("held(-1, 0)", x.held(-1, 0), OUTSIDE);
        due.is("held(4, 0)", x.held(4, 0), OUTSIDE);
        due.is("held(0, -1)", x.held(0, -1), OUTSIDE);
        due.is("held(0, 100)", x.held(0, 100), OUTSIDE);
    }

    private static void frameIs(StreamWeave x, int p, int f, int[] wants) {
        for (int what = 0; what < 6; what++) {
            due.is("frame(" + p + ", " + f + ", " + what + ")", x.frame(p, f, what), wants[what]);
        }
    }

    private static void frame() {
        due.about("10 frame");
        StreamWeave x = Due.woven("frame 2 2 3", "frame 2 4 6", "frame 2 1 99", "frame 3 1 1");
        frameIs(x, 2, 0, new int[] {2, 3, 2, 1, 2, 1});
        frameIs(x, 2, 1, new int[] {4, 6, 3, 3, 5, 0});
        frameIs(x, 2, 2, new int[] {1, 99, 1, 6, 6, 1});
        frameIs(x, 3, 0, new int[] {1, 1, 0, NONE, NONE, 0});
        due.is("frame(2, 3, 0)", x.frame(2, 3, 0), NONE);
        due.is("frame(2, -1, 5)", x.frame(2, -1, 5), NONE);
        due.is("frame(0, 0, 0)", x.frame(0, 0, 0), NONE);
        due.is("frame(0, greatest, 0)", x.frame(0, Integer.MAX_VALUE, 0), NONE);
        due.is("frame(4, 0, 0)", x.frame(4, 0, 0), OUTSIDE);
        due.is("frame(-1, 0, 0)", x.frame(-1, 0, 0), OUTSIDE);
        due.is("frame(0, 0, 6)", x.frame(0, 0, 6), OUTSIDE);
        due.is("frame(0, 0, -1)", x.frame(0, 0, -1), OUTSIDE);
        due.is("frame(0, 99, 6)", x.frame(0, 99, 6), OUTSIDE);
    }

    private static void sent() {
        due.about("11 sent");
        StreamWeave x = Due.woven("wide 2", "clock 0 33", "frame 2 9 3", "frame 3 9 3", "frame 1 1 50");
        // 200 slots: tables at 0, 20, .., 80; clocks at 0, 33, 66, 99; of frames 4 + 0 + 1.
        int[] wants = {186, 5, 4, 5, 1, 2, 14, 3};
        for (int what = 0; what < 8; what++) {
            due.is("sent(" + what + ")", x.sent(what), wants[what]);
        }
        due.is("sent(-1)", x.sent(-1), OUTSIDE);
        due.is("sent(8)", x.sent(8), OUTSIDE);
        Due.line(x, "drop 2");
        Due.line(x, "drop 3");
        due.is("sent(7)", x.sent(7), NONE);
        due.is("sent(5)", x.sent(5), 0);
        due.is("sent(6)", x.sent(6), 0);
        due.is("sent(4)", x.sent(4), 1);
    }

    private static void most() {
        due.about("12 most");
        StreamWeave x = Due.woven("wide 4", "frame 0 9 20", "frame 0 9 30", "frame 1 3 2");
        due.is("most(0)", x.most(0), 10);
        due.is("most(1)", x.most(1), 3);
        due.is("most(2)", x.most(2), 0);
        due.is("most(4)", x.most(4), OUTSIDE);
        due.is("most(-1)", x.most(-1), OUTSIDE);
        Due.line(x, "room 0 40");
        due.is("most(0)", x.most(0), 18);
        Due.line(x, "room 0 5");
        due.is("most(0)", x.most(0), 5);
        StreamWeave atFirst = Due.woven("table 0", "frame 3 1 1");
        due.is("most(3), held behind tick 0 alone", atFirst.most(3), 1);
        StreamWeave atLast = Due.woven("wide 4", "table 1", "clock 0 1", "clock 1 1", "frame 2 9 99", "room 2 9");
        due.is("most(2)", atLast.most(2), 9);
        due.is("held(2, 98)", atLast.held(2, 98), 9);
        due.is("held(2, 99)", atLast.held(2, 99), 0);
    }

    private static void needs() {
        due.about("13 needs");
        StreamWeave x = Due.woven("table 0", "frame 0 1 1");
        due.is("needs()", x.needs(), 1);
        Due.line(x, "frame 1 2 1");
        due.is("needs()", x.needs(), 3);
        Due.line(x, "table 1");
        due.is("needs()", x.needs(), 4);
        due.is("sent(5)", x.sent(5), 2);
        Due.line(x, "wide 4");
        due.is("needs()", x.needs(), 4);
        due.is("count(0)", x.count(0), 4);
        Due.line(x, "frame 2 1 1");
        due.is("needs()", x.needs(), NONE);
    }

    private static void room() {
        due.about("14 room");
        StreamWeave x = Due.woven("table 0", "wide 4", "room 0 1", "room 1 1", "frame 0 9 90", "frame 0 9 91",
            "frame 0 9 92", "frame 0 9 93", "frame 0 4 94");
        // Before tick 93 36 packets must be sent; 12 of them can be at ticks 90 to 92.
        due.is("room(0)", x.room(0), 24);
        due.is("told(0, 0)", x.told(0, 0), 1);
        due.is("room(1)", x.room(1), NONE);
        due.is("sent(5)", x.sent(5), 5);
        Due.line(x, "room 0 24");
        due.is("sent(5)", x.sent(5), 0);
        due.is("room(1)", x.room(1), 1);
        Due.line(x, "room 0 23");
        due.is("sent(5)", x.sent(5), 1);
        due.is("room(-1)", x.room(-1), OUTSIDE);
        due.is("room(4)", x.room(4), OUTSIDE);
        // Before tick 94 45 packets must be sent; 4 of them can be at ticks 90 to 93: 41 are too many.
        StreamWeave y = Due.woven("table 0", "wide 1", "frame 0 9 90", "frame 0 9 91", "frame 0 9 92",
            "frame 0 9 93", "frame 0 9 94");
        due.is("room(0)", y.room(0), NONE);
        Due.line(y, "drop 0");
        for (int f = 0; f < 5; f++) {
            Due.line(y, "frame 0 " + (f == 4 ? 8 : 9) + " " + (90 + f));
        }
        due.is("room(0)", y.room(0), 40);
    }

    private static void without() {
        due.about("15 without");
        StreamWeave x = Due.woven("table 0", "clock 3 1", "frame 0 1 5", "frame 1 5 5");
        due.is("without(0)", x.without(0), 1);
        due.is("without(1)", x.without(1), 1);
        due.is("without(2)", x.without(2), 2);
        due.is("without(3)", x.without(3), 1);
        due.is("sent(5)", x.sent(5), 2);
        due.is("told(3, 1)", x.told(3, 1), 1);
        Due.line(x, "frame 3 1 9");
        due.is("without(3)", x.without(3), 1);
        due.is("without(2)", x.without(2), 3);
        due.is("without(4)", x.without(4), OUTSIDE);
        due.is("without(-1)", x.without(-1), OUTSIDE);
    }

    private static void images() {
        due.about("16 image, 17 restore");
        StreamWeave x = Due.woven("wide 2", "table 7", "room 1 5", "clock 2 9", "frame 3 4 5", "frame 0 1 9");
        due.is("image(0)", x.image(0), 1);
        due.is("restore(1)", x.restore(1), StreamWeave.STATE);
        due.is("image(2)", x.image(2), OUTSIDE);
        due.is("image(-1)", x.image(-1), OUTSIDE);
        due.is("restore(2)", x.restore(2), OUTSIDE);
        due.is("restore(-1)", x.restore(-1), OUTSIDE);
        String[] lines = {"wide 3", "table 0", "room 1 6", "clock 2 0", "drop 3", "frame 3 7 8", "frame 0 3 50"};
        for (String text : lines) {
            Due.line(x, text);
        }
        due.is("image(1)", x.image(1), 1);
        Due.line(x, "frame y");
        due.is("held(3, 4) ahead", x.held(3, 4), 7);
        due.is("restore(0)", x.restore(0), 1);
        due.is("count(3)", x.count(3), 7);
        due.is("count(4)", x.count(4), 6);
        due.is("count(5)", x.count(5), 3);
        firstImage(x);
        due.is("restore(1)", x.restore(1), 1);
        due.is("count(0)", x.count(0), 3);
        due.is("count(2)", x.count(2), 3);
        due.is("told(3, 4)", x.told(3, 4), 7);
        due.is("told(0, 3)", x.told(0, 3), 50);
        // An image stays, and what is done behind a restore does not touch it.
        x.restore(0);
        Due.line(x, "drop 3");
        Due.line(x, "frame 3 9 99");
        due.is("restore(0)", x.restore(0), 1);
        firstImage(x);
        Due.line(x, "wide 4");
        x.image(0);
        x.restore(1);
        x.restore(0);
        due.is("count(0) of the later image", x.count(0), 4);
    }

    private static void firstImage(StreamWeave x) {
        due.is("count(0)", x.count(0), 2);
        due.is("count(1)", x.count(1), 7);
        due.is("count(2)", x.count(2), 2);
        due.is("told(1, 0)", x.told(1, 0), 5);
        due.is("told(2, 1)", x.told(2, 1), 9);
        due.is("told(3, 4)", x.told(3, 4), 4);
        due.is("told(3, 3)", x.told(3, 3), 5);
        due.is("told(0, 3)", x.told(0, 3), 9);
        due.is("held(3, 4)", x.held(3, 4), 4);
    }

    private static void count() {
        due.about("18 count");
        StreamWeave x = Due.woven("frame 3 4 5", "frame 0 1 9", "frame 0 1 10");
        due.is("count(2)", x.count(2), 3);
        due.is("count(6)", x.count(6), OUTSIDE);
        due.is("count(-1)", x.count(-1), OUTSIDE);
        Due.type(x, "tab");
        due.is("count(3)", x.count(3), 3);
        x.fault();
        due.is("count(4) behind fault()", x.count(4), NONE);
        x.line();
        due.is("count(4)", x.count(4), 3);
        due.is("line", Due.line(x, "table 5"), 20);
        due.is("count(4) stays", x.count(4), 3);
        Due.line(x, "table 99");
        due.is("count(4) stays", x.count(4), 3);
        x.wipe();
        x.line();
        due.is("count(4) of the empty line", x.count(4), 0);
        due.is("count(5)", x.count(5), 0);
        x.image(1);
        due.is("count(5)", x.count(5), 2);
        x.restore(1);
        x.image(0);
        due.is("count(5)", x.count(5), 3);
        due.is("count(1)", x.count(1), 5);
    }
}
