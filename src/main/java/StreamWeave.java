import java.util.Arrays;

/**
 * Programmes woven to one stream: frames of four programmes, a table and clocks are sent tick by
 * tick in a stream of a given width, and what is sent, held and late can be asked.
 */
public final class StreamWeave {
    /** What refused calls answer; NONE: there is none. */
    public static final int OUTSIDE = -2, STATE = -3, FULL = -4, NONE = -6, FAULT = -7;

    private static final int PROGRAMMES = 4;
    private static final int MOST_FRAMES = 10;
    private static final int MOST_SIZE = 9;
    private static final int MOST_ROOM = 40;
    private static final int MOST_PAUSE = 50;
    private static final int MOST_WIDE = 4;
    private static final int MOST_SIGNS = 20;
    private static final int TICKS = 100;
    private static final int IMAGES = 2;
    private static final int COUNTER_SPAN = 16;

    private final Line typed = new Line();
    private final Plan plan = new Plan();
    private final Plan trial = new Plan();
    private final Plan[] images = new Plan[IMAGES];
    private final Stream stream = new Stream();
    private int keptImages = 0;
    private int lastFault = NONE;
    private boolean woven = false;

    /** No FRAMES; THE LINE is empty; no FAULT, no IMAGE. */
    public StreamWeave() {
        for (int k = 0; k < IMAGES; k++) {
            images[k] = new Plan();
        }
    }

    // ---- 1 lines

    /** A sign more: how many THE LINE has. */
    public int say(int sign) {
        if (!isWithin(sign, 32, 126)) {
            return OUTSIDE;
        }
        return typed.add(sign) ? typed.length : FULL;
    }

    /** THE LINE is empty: how many signs it had. */
    public int wipe() {
        int had = typed.length;
        typed.length = 0;
        return had;
    }

    /** What THE LINE tells is done; THE LINE is empty then. */
    public int line() {
        int place = typed.read();
        if (place != NONE) {
            lastFault = place;
            return FAULT;
        }
        int answer = obey(typed.numbers);
        if (answer >= 0) {
            typed.length = 0;
            woven = false;
        }
        return answer;
    }

    /** The FAULT of THE LINE as it is. */
    public int fault() {
        return typed.read();
    }

    /** Sign k of a FRAME written out as a LINE; k = -1: how many signs. */
    public int written(int programme, int f, int k) {
        if (!isProgramme(programme) || k < -1) {
            return OUTSIDE;
        }
        Programme asked = plan.programmes[programme];
        if (!asked.hasFrame(f)) {
            return NONE;
        }
        StringBuilder text = new StringBuilder();
        text.append(Line.text(Line.FRAME));
        text.append(' ').append(programme);
        text.append(' ').append(asked.size[f]);
        text.append(' ').append(asked.due[f]);
        if (k == -1) {
            return text.length();
        }
        if (k >= text.length()) {
            return NONE;
        }
        return text.charAt(k);
    }

    /** Of a PROGRAMME: ROOM, CLOCK, how many FRAMES, the greatest DUE, PACKETS of all FRAMES. */
    public int told(int programme, int what) {
        if (!isProgramme(programme)) {
            return OUTSIDE;
        }
        Programme asked = plan.programmes[programme];
        switch (what) {
            case 0:
                return asked.room;
            case 1:
                return asked.clock;
            case 2:
                return asked.frames;
            case 3:
                return asked.lastDue();
            case 4:
                return asked.packets();
            default:
                return OUTSIDE;
        }
    }

    // ---- 2 the stream

    /** Of the i-th PACKET sent at a TICK: what it is, its PROGRAMME, its FRAME, its COUNTER. */
    public int packet(int tick, int i, int what) {
        if (!isTick(tick) || !isWithin(i, 0, plan.wide - 1)) {
            return OUTSIDE;
        }
        weave();
        int slot = Stream.slot(tick, i);
        switch (what) {
            case 0:
                return stream.kind[slot];
            case 1:
                return stream.programme[slot];
            case 2:
                return stream.frame[slot];
            case 3:
                return stream.counter[slot];
            default:
                return OUTSIDE;
        }
    }

    /** How many PACKETS a PROGRAMME HOLDS behind a TICK. */
    public int held(int programme, int tick) {
        if (!isProgramme(programme) || !isTick(tick)) {
            return OUTSIDE;
        }
        weave();
        return stream.channels[programme].heldBehind[tick];
    }

    /** Of a FRAME: SIZE, DUE, PACKETS sent, first and last TICK of these, whether it is SHOWN. */
    public int frame(int programme, int f, int what) {
        if (!isProgramme(programme) || !isWithin(what, 0, 5)) {
            return OUTSIDE;
        }
        Programme asked = plan.programmes[programme];
        if (!asked.hasFrame(f)) {
            return NONE;
        }
        weave();
        Channel channel = stream.channels[programme];
        switch (what) {
            case 0:
                return asked.size[f];
            case 1:
                return asked.due[f];
            case 2:
                return channel.gone[f];
            case 3:
                return channel.firstTick[f];
            case 4:
                return channel.lastTick[f];
            default:
                return channel.gone[f] == asked.size[f] ? 1 : 0;
        }
    }

    /** Of the whole STREAM: PACKETS by kind, FRAMES SHOWN and LATE, PACKETS never sent, first LATE. */
    public int sent(int what) {
        if (!isWithin(what, 0, 7)) {
            return OUTSIDE;
        }
        weave();
        switch (what) {
            case 4:
                return stream.shown;
            case 5:
                return stream.late;
            case 6:
                return stream.neverSent;
            case 7:
                return stream.firstLate;
            default:
                return stream.sentOfKind(what);
        }
    }

    /** The most PACKETS that a PROGRAMME HOLDS behind any TICK. */
    public int most(int programme) {
        if (!isProgramme(programme)) {
            return OUTSIDE;
        }
        weave();
        return stream.channels[programme].mostHeld();
    }

    // ---- 3 how wide, how much room

    /** The least WIDE by which no FRAME would be LATE. */
    public int needs() {
        trial.copyFrom(plan);
        for (int wide = 1; wide <= MOST_WIDE; wide++) {
            trial.wide = wide;
            if (trialShowsAll()) {
                return wide;
            }
        }
        return NONE;
    }

    /** The least ROOM of a PROGRAMME by which no FRAME of any PROGRAMME would be LATE. */
    public int room(int programme) {
        if (!isProgramme(programme)) {
            return OUTSIDE;
        }
        trial.copyFrom(plan);
        Programme tried = trial.programmes[programme];
        // With room for all its packets a programme is never full: more room changes nothing.
        int enough = Math.max(1, Math.min(MOST_ROOM, tried.packets()));
        for (int room = 1; room <= enough; room++) {
            tried.room = room;
            if (trialShowsAll()) {
                return room;
            }
        }
        return NONE;
    }

    /** How many FRAMES would be LATE without a PROGRAMME. */
    public int without(int programme) {
        if (!isProgramme(programme)) {
            return OUTSIDE;
        }
        trial.copyFrom(plan);
        trial.programmes[programme].frames = 0;
        trial.programmes[programme].clock = 0;
        woven = false;
        stream.weaveWhole(trial);
        return stream.late;
    }

    // ---- 4 images

    /** All but THE LINE, the place of the FAULT and IMAGES is kept in an IMAGE. */
    public int image(int k) {
        if (!isWithin(k, 0, IMAGES - 1)) {
            return OUTSIDE;
        }
        images[k].copyFrom(plan);
        keptImages |= 1 << k;
        return 1;
    }

    /** All but THE LINE, the place of the FAULT and IMAGES is as it was when it was kept. */
    public int restore(int k) {
        if (!isWithin(k, 0, IMAGES - 1)) {
            return OUTSIDE;
        }
        if ((keptImages & (1 << k)) == 0) {
            return STATE;
        }
        plan.copyFrom(images[k]);
        woven = false;
        return 1;
    }

    /** WIDE, TABLE, FRAMES in all, signs of THE LINE, the last FAULT's place, the IMAGES kept. */
    public int count(int what) {
        switch (what) {
            case 0:
                return plan.wide;
            case 1:
                return plan.table;
            case 2:
                return plan.framesInAll();
            case 3:
                return typed.length;
            case 4:
                return lastFault;
            case 5:
                return keptImages;
            default:
                return OUTSIDE;
        }
    }

    // ---- what a line asks for

    private int obey(int[] numbers) {
        int first = numbers[0];
        int second = numbers[1];
        int third = numbers[2];
        switch (typed.word) {
            case Line.FRAME:
                return addFrame(first, second, third);
            case Line.ROOM:
                return setRoom(first, second);
            case Line.CLOCK:
                return setClock(first, second);
            case Line.TABLE:
                return setTable(first);
            case Line.WIDE:
                return setWide(first);
            case Line.DROP:
                return dropFrames(first);
            default:
                return swapFrames(first, second, third);
        }
    }

    private int addFrame(int p, int size, int due) {
        if (!isProgramme(p) || !isWithin(size, 1, MOST_SIZE) || !isDue(due)) {
            return OUTSIDE;
        }
        Programme programme = plan.programmes[p];
        // Without frames lastDue() is NONE, which is below every due.
        if (due <= programme.lastDue()) {
            return STATE;
        }
        return programme.add(size, due) ? programme.frames - 1 : FULL;
    }

    private int setRoom(int p, int room) {
        if (!isProgramme(p) || !isWithin(room, 1, MOST_ROOM)) {
            return OUTSIDE;
        }
        int was = plan.programmes[p].room;
        plan.programmes[p].room = room;
        return was;
    }

    private int setClock(int p, int clock) {
        if (!isProgramme(p) || !isWithin(clock, 0, MOST_PAUSE)) {
            return OUTSIDE;
        }
        int was = plan.programmes[p].clock;
        plan.programmes[p].clock = clock;
        return was;
    }

    private int setTable(int table) {
        if (!isWithin(table, 0, MOST_PAUSE)) {
            return OUTSIDE;
        }
        int was = plan.table;
        plan.table = table;
        return was;
    }

    private int setWide(int wide) {
        if (!isWithin(wide, 1, MOST_WIDE)) {
            return OUTSIDE;
        }
        int was = plan.wide;
        plan.wide = wide;
        return was;
    }

    private int dropFrames(int p) {
        if (!isProgramme(p)) {
            return OUTSIDE;
        }
        int went = plan.programmes[p].frames;
        plan.programmes[p].frames = 0;
        return went;
    }

    private int swapFrames(int p, int q, int tick) {
        if (!isProgramme(p) || !isProgramme(q) || p == q || !isDue(tick)) {
            return OUTSIDE;
        }
        Programme into = plan.programmes[p];
        Programme from = plan.programmes[q];
        int stay = into.framesBefore(tick);
        int start = from.framesBefore(tick);
        if (stay + from.frames - start > MOST_FRAMES) {
            return FULL;
        }
        into.frames = stay;
        for (int f = start; f < from.frames; f++) {
            into.add(from.size[f], from.due[f]);
        }
        return into.frames;
    }

    // ---- weaving when it is asked

    private void weave() {
        if (!woven) {
            stream.weaveWhole(plan);
            woven = true;
        }
    }

    private boolean trialShowsAll() {
        // The one stream is used for trials too, so what it held of the plan is gone.
        woven = false;
        return stream.showsAll(trial);
    }

    private static boolean isWithin(int number, int least, int greatest) {
        return number >= least && number <= greatest;
    }

    private static boolean isProgramme(int number) {
        return isWithin(number, 0, PROGRAMMES - 1);
    }

    private static boolean isTick(int number) {
        return isWithin(number, 0, TICKS - 1);
    }

    private static boolean isDue(int number) {
        return isWithin(number, 1, TICKS - 1);
    }

    /** THE LINE as it is typed, and what it says once it is read. */
    private static final class Line {
        static final int FRAME = 0, ROOM = 1, CLOCK = 2, TABLE = 3, WIDE = 4, DROP = 5, SWAP = 6;
        static final int WORDS = 7;
        static final int MOST_NUMBERS = 3;

        final int[] signs = new int[MOST_SIGNS];
        final int[] numbers = new int[MOST_NUMBERS];
        int length = 0;
        int word = FRAME;

        static String text(int word) {
            switch (word) {
                case FRAME:
                    return "frame";
                case ROOM:
                    return "room";
                case CLOCK:
                    return "clock";
                case TABLE:
                    return "table";
                case WIDE:
                    return "wide";
                case DROP:
                    return "drop";
                default:
                    return "swap";
            }
        }

        static int numbersBehind(int word) {
            switch (word) {
                case FRAME:
                case SWAP:
                    return 3;
                case ROOM:
                case CLOCK:
                    return 2;
                default:
                    return 1;
            }
        }

        boolean add(int sign) {
            if (length >= MOST_SIGNS) {
                return false;
            }
            signs[length] = sign;
            length++;
            return true;
        }

        /** The place of the FAULT; NONE: word and numbers are those of the line. */
        int read() {
            int longest = 0;
            word = FRAME;
            for (int w = 0; w < WORDS; w++) {
                int common = commonSigns(text(w));
                if (common > longest) {
                    longest = common;
                    word = w;
                }
            }
            // No word begins another one, so only one can stand whole.
            return longest < text(word).length() ? longest : readNumbers(longest);
        }

        int commonSigns(String text) {
            int most = Math.min(length, text.length());
            int common = 0;
            while (common < most && signs[common] == text.charAt(common)) {
                common++;
            }
            return common;
        }

        int readNumbers(int start) {
            int place = start;
            int behind = numbersBehind(word);
            for (int n = 0; n < behind; n++) {
                if (!isSign(place, ' ')) {
                    return place;
                }
                place++;
                if (!isFigure(place)) {
                    return place;
                }
                numbers[n] = signs[place] - '0';
                place++;
                if (isFigure(place)) {
                    numbers[n] = numbers[n] * 10 + signs[place] - '0';
                    place++;
                }
            }
            return place < length ? place : NONE;
        }

        boolean isSign(int place, char sign) {
            return place < length && signs[place] == sign;
        }

        boolean isFigure(int place) {
            return place < length && isWithin(signs[place], '0', '9');
        }
    }

    /** What is told of one programme; its frames are in the order of their rising dues. */
    private static final class Programme {
        final int[] size = new int[MOST_FRAMES];
        final int[] due = new int[MOST_FRAMES];
        int frames = 0;
        int room = 10;
        int clock = 0;

        boolean hasFrame(int f) {
            return isWithin(f, 0, frames - 1);
        }

        boolean add(int packets, int tick) {
            if (frames >= MOST_FRAMES) {
                return false;
            }
            size[frames] = packets;
            due[frames] = tick;
            frames++;
            return true;
        }

        int lastDue() {
            return frames > 0 ? due[frames - 1] : NONE;
        }

        int packets() {
            int all = 0;
            for (int f = 0; f < frames; f++) {
                all += size[f];
            }
            return all;
        }

        int framesBefore(int tick) {
            int before = 0;
            while (before < frames && due[before] < tick) {
                before++;
            }
            return before;
        }

        void copyFrom(Programme other) {
            System.arraycopy(other.size, 0, size, 0, MOST_FRAMES);
            System.arraycopy(other.due, 0, due, 0, MOST_FRAMES);
            frames = other.frames;
            room = other.room;
            clock = other.clock;
        }
    }

    /** All that the stream follows from; an image is a copy of it. */
    private static final class Plan {
        final Programme[] programmes = new Programme[PROGRAMMES];
        int table = 20;
        int wide = 1;

        Plan() {
            for (int p = 0; p < PROGRAMMES; p++) {
                programmes[p] = new Programme();
            }
        }

        int framesInAll() {
            int all = 0;
            for (int p = 0; p < PROGRAMMES; p++) {
                all += programmes[p].frames;
            }
            return all;
        }

        void copyFrom(Plan other) {
            for (int p = 0; p < PROGRAMMES; p++) {
                programmes[p].copyFrom(other.programmes[p]);
            }
            table = other.table;
            wide = other.wide;
        }
    }

    /** How far one programme has come in the stream. */
    private static final class Channel {
        final int[] gone = new int[MOST_FRAMES];
        final int[] firstTick = new int[MOST_FRAMES];
        final int[] lastTick = new int[MOST_FRAMES];
        final int[] heldBehind = new int[TICKS];
        int holds = 0;
        int packetsSent = 0;
        int lastClock = NONE;
        int nextDue = 0;
        int nextOpen = 0;

        void begin() {
            Arrays.fill(gone, 0);
            Arrays.fill(firstTick, NONE);
            Arrays.fill(lastTick, NONE);
            holds = 0;
            packetsSent = 0;
            lastClock = NONE;
            nextDue = 0;
            nextOpen = 0;
        }

        /** The frame that is due at a tick, which holds no packets any more; NONE: none is due. */
        int takeDue(Programme told, int tick) {
            if (nextDue >= told.frames || told.due[nextDue] != tick) {
                return NONE;
            }
            int f = nextDue;
            holds -= gone[f];
            nextDue++;
            return f;
        }

        /** The frame whose packet can be sent at a tick; NONE: there is none, or no room. */
        int openFrame(Programme told, int tick) {
            // What is behind is all sent or past its due, and stays so: no need to look again.
            while (nextOpen < told.frames
                    && (told.due[nextOpen] <= tick || gone[nextOpen] == told.size[nextOpen])) {
                nextOpen++;
            }
            return nextOpen < told.frames && holds < told.room ? nextOpen : NONE;
        }

        void sendOf(int f, int tick) {
            if (gone[f] == 0) {
                firstTick[f] = tick;
            }
            lastTick[f] = tick;
            gone[f]++;
            holds++;
        }

        int nextCounter() {
            int counter = packetsSent % COUNTER_SPAN;
            packetsSent++;
            return counter;
        }

        int mostHeld() {
            int most = 0;
            for (int tick = 0; tick < TICKS; tick++) {
                most = Math.max(most, heldBehind[tick]);
            }
            return most;
        }
    }

    /** The stream that a plan gives, from tick 0 to 99. */
    private static final class Stream {
        static final int STUFFING = 0, TABLE = 1, CLOCK = 2, OF_FRAME = 3;
        static final int KINDS = 4;

        final int[] kind = new int[TICKS * MOST_WIDE];
        final int[] programme = new int[TICKS * MOST_WIDE];
        final int[] frame = new int[TICKS * MOST_WIDE];
        final int[] counter = new int[TICKS * MOST_WIDE];
        final Channel[] channels = new Channel[PROGRAMMES];
        final int[] ofKind = new int[KINDS];
        int lastTable = NONE;
        int shown = 0;
        int late = 0;
        int neverSent = 0;
        int firstLate = NONE;

        Stream() {
            for (int p = 0; p < PROGRAMMES; p++) {
                channels[p] = new Channel();
            }
        }

        static int slot(int tick, int i) {
            return tick * MOST_WIDE + i;
        }

        int sentOfKind(int asked) {
            return isWithin(asked, 0, KINDS - 1) ? ofKind[asked] : 0;
        }

        void weaveWhole(Plan plan) {
            begin();
            for (int tick = 0; tick < TICKS; tick++) {
                weaveTick(plan, tick);
            }
        }

        /** Whether no frame is late; it ends at the first that is, so the rest is not woven. */
        boolean showsAll(Plan plan) {
            begin();
            for (int tick = 0; tick < TICKS && late == 0; tick++) {
                weaveTick(plan, tick);
            }
            return late == 0;
        }

        void begin() {
            for (int p = 0; p < PROGRAMMES; p++) {
                channels[p].begin();
            }
            Arrays.fill(ofKind, 0);
            lastTable = NONE;
            shown = 0;
            late = 0;
            neverSent = 0;
            firstLate = NONE;
        }

        void weaveTick(Plan plan, int tick) {
            for (int p = 0; p < PROGRAMMES; p++) {
                showDue(plan.programmes[p], channels[p], tick);
            }
            for (int i = 0; i < plan.wide; i++) {
                sendOne(plan, tick, slot(tick, i));
            }
            for (int p = 0; p < PROGRAMMES; p++) {
                channels[p].heldBehind[tick] = channels[p].holds;
            }
        }

        void showDue(Programme told, Channel channel, int tick) {
            int f = channel.takeDue(told, tick);
            if (f == NONE) {
                return;
            }
            int missing = told.size[f] - channel.gone[f];
            if (missing == 0) {
                shown++;
                return;
            }
            late++;
            neverSent += missing;
            if (firstLate == NONE) {
                firstLate = tick;
            }
        }

        void sendOne(Plan plan, int tick, int slot) {
            if (comesAgain(plan.table, lastTable, tick)) {
                sendTable(tick, slot);
                return;
            }
            int p = clockProgramme(plan, tick);
            if (p != NONE) {
                channels[p].lastClock = tick;
                note(slot, CLOCK, p, NONE, channels[p].nextCounter());
                return;
            }
            p = frameProgramme(plan, tick);
            if (p != NONE) {
                int f = channels[p].nextOpen;
                channels[p].sendOf(f, tick);
                note(slot, OF_FRAME, p, f, channels[p].nextCounter());
                return;
            }
            note(slot, STUFFING, NONE, NONE, 0);
        }

        void sendTable(int tick, int slot) {
            lastTable = tick;
            note(slot, TABLE, NONE, NONE, ofKind[TABLE] % COUNTER_SPAN);
        }

        void note(int slot, int what, int p, int f, int number) {
            kind[slot] = what;
            programme[slot] = p;
            frame[slot] = f;
            counter[slot] = number;
            ofKind[what]++;
        }

        /** The least programme whose clock is to be sent at a tick. */
        int clockProgramme(Plan plan, int tick) {
            for (int p = 0; p < PROGRAMMES; p++) {
                if (comesAgain(plan.programmes[p].clock, channels[p].lastClock, tick)) {
                    return p;
                }
            }
            return NONE;
        }

        /** The programme whose open frame has the least due, the least of such. */
        int frameProgramme(Plan plan, int tick) {
            int best = NONE;
            int bestDue = TICKS;
            for (int p = 0; p < PROGRAMMES; p++) {
                int f = channels[p].openFrame(plan.programmes[p], tick);
                if (f != NONE && plan.programmes[p].due[f] < bestDue) {
                    best = p;
                    bestDue = plan.programmes[p].due[f];
                }
            }
            return best;
        }

        static boolean comesAgain(int pause, int last, int tick) {
            return pause != 0 && (last == NONE || tick - last >= pause);
        }
    }
}
