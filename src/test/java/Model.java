import java.util.ArrayList;
import java.util.List;
import java.util.regex.Matcher;
import java.util.regex.Pattern;

/**
 * The document once more, word by word and without regard to speed, to set the class against. It
 * shares no code with the class: lines are read by patterns, and the stream is a list of packets.
 */
final class Model {
    private static final int OUTSIDE = -2, STATE = -3, FULL = -4, NONE = -6, FAULT = -7;
    private static final Pattern LINE = Pattern.compile("(?:frame|swap)(?: [0-9]{1,2}){3}"
        + "|(?:room|clock)(?: [0-9]{1,2}){2}|(?:table|wide|drop)(?: [0-9]{1,2}){1}");

    record Frame(int size, int due) { }

    record Packet(int kind, int programme, int frame, int counter, int tick) { }

    /** What an image keeps. */
    static final class Settings {
        int[] room = {10, 10, 10, 10};
        int[] clock = {0, 0, 0, 0};
        List<List<Frame>> frames = List.of(new ArrayList<>(), new ArrayList<>(), new ArrayList<>(), new ArrayList<>());
        int table = 20;
        int wide = 1;

        Settings copy() {
            Settings copy = new Settings();
            copy.room = room.clone();
            copy.clock = clock.clone();
            for (int p = 0; p < 4; p++) {
                copy.frames.get(p).addAll(frames.get(p));
            }
            copy.table = table;
            copy.wide = wide;
            return copy;
        }
    }

    /** The stream of some settings, as the list of all its packets and what is held behind ticks. */
    static final class Woven {
        final Settings set;
        final List<Packet> packets = new ArrayList<>();
        final int[][] held = new int[4][100];

        Woven(Settings set) {
            this.set = set;
            for (int tick = 0; tick < 100; tick++) {
                for (int i = 0; i < set.wide; i++) {
                    packets.add(choose(tick));
                }
                for (int p = 0; p < 4; p++) {
                    held[p][tick] = holds(p, tick);
                }
            }
        }

        int ofFrame(int p, int f) {
            return (int) packets.stream().filter(k -> k.kind == 3 && k.programme == p && k.frame == f).count();
        }

        int holds(int p, int tick) {
            int holds = 0;
            for (int f = 0; f < set.frames.get(p).size(); f++) {
                if (set.frames.get(p).get(f).due > tick) {
                    holds += ofFrame(p, f);
                }
            }
            return holds;
        }

        boolean again(int kind, int p, int every, int tick) {
            int last = packets.stream().filter(k -> k.kind == kind && k.programme == p)
                .mapToInt(Packet::tick).max().orElse(-1000);
            return every != 0 && tick - last >= every;
        }

        int counter(int p) {
            return (int) packets.stream().filter(k -> k.kind != 0 && k.programme == p).count() % 16;
        }

        Packet choose(int tick) {
            if (again(1, NONE, set.table, tick)) {
                return new Packet(1, NONE, NONE, counter(NONE), tick);
            }
            for (int p = 0; p < 4; p++) {
                if (again(2, p, set.clock[p], tick)) {
                    return new Packet(2, p, NONE, counter(p), tick);
                }
            }
            for (int due = tick + 1; due < 100; due++) {
                for (int p = 0; p < 4; p++) {
                    int f = first(p, tick);
                    if (f != NONE && set.frames.get(p).get(f).due == due && holds(p, tick) < set.room[p]) {
                        return new Packet(3, p, f, counter(p), tick);
                    }
                }
            }
            return new Packet(0, NONE, NONE, 0, tick);
        }

        int first(int p, int tick) {
            for (int f = 0; f < set.frames.get(p).size(); f++) {
                Frame frame = set.frames.get(p).get(f);
                if (frame.due > tick && ofFrame(p, f) < frame.size) {
                    return f;
                }
            }
            return NONE;
        }

        boolean late(int p, int f) {
            return ofFrame(p, f) < set.frames.get(p).get(f).size;
        }

        int lates() {
            int lates = 0;
            for (int p = 0; p < 4; p++) {
                for (int f = 0; f < set.frames.get(p).size(); f++) {
                    lates += late(p, f) ? 1 : 0;
                }
            }
            return lates;
        }
    }

    private final StringBuilder typed = new StringBuilder();
    private Settings set = new Settings();
    private final Settings[] images = new Settings[2];
    private int told = NONE;
    private Woven woven;

    private Woven woven() {
        if (woven == null) {
            woven = new Woven(set);
        }
        return woven;
    }

    int say(int sign) {
        if (sign < 32 || sign > 126) {
            return OUTSIDE;
        }
        if (typed.length() == 20) {
            return FULL;
        }
        return typed.append((char) sign).length();
    }

    int wipe() {
        int had = typed.length();
        typed.setLength(0);
        return had;
    }

    int fault() {
        for (int k = 1; k <= typed.length(); k++) {
            Matcher matcher = LINE.matcher(typed.substring(0, k));
            if (!matcher.matches() && !matcher.hitEnd()) {
                return k - 1;
            }
        }
        return LINE.matcher(typed).matches() ? NONE : typed.length();
    }

    int line() {
        int place = fault();
        if (place != NONE) {
            told = place;
            return FAULT;
        }
        String[] parts = typed.toString().split(" ");
        int[] n = new int[parts.length - 1];
        for (int k = 0; k < n.length; k++) {
            n[k] = Integer.parseInt(parts[k + 1]);
        }
        int answer = act(parts[0], n);
        if (answer >= 0) {
            typed.setLength(0);
            woven = null;
        }
        return answer;
    }

    private int act(String word, int[] n) {
        boolean ofProgramme = !word.equals("table") && !word.equals("wide");
        if (ofProgramme && n[0] > 3) {
            return OUTSIDE;
        }
        int was;
        switch (word) {
            case "frame":
                return more(set.frames.get(n[0]), n[1], n[2]);
            case "room":
                if (n[1] < 1 || n[1] > 40) {
                    return OUTSIDE;
                }
                was = set.room[n[0]];
                set.room[n[0]] = n[1];
                return was;
            case "clock":
                if (n[1] > 50) {
                    return OUTSIDE;
                }
                was = set.clock[n[0]];
                set.clock[n[0]] = n[1];
                return was;
            case "table":
                if (n[0] > 50) {
                    return OUTSIDE;
                }
                was = set.table;
                set.table = n[0];
                return was;
            case "wide":
                if (n[0] < 1 || n[0] > 4) {
                    return OUTSIDE;
                }
                was = set.wide;
                set.wide = n[0];
                return was;
            case "drop":
                was = set.frames.get(n[0]).size();
                set.frames.get(n[0]).clear();
                return was;
            default:
                return swap(n[0], n[1], n[2]);
        }
    }

    private static int more(List<Frame> frames, int size, int due) {
        if (size < 1 || size > 9 || due < 1) {
            return OUTSIDE;
        }
        if (frames.stream().anyMatch(f -> f.due >= due)) {
            return STATE;
        }
        if (frames.size() == 10) {
            return FULL;
        }
        frames.add(new Frame(size, due));
        return frames.size() - 1;
    }

    private int swap(int p, int q, int t) {
        if (q > 3 || p == q || t < 1) {
            return OUTSIDE;
        }
        List<Frame> all = new ArrayList<>(set.frames.get(p));
        all.removeIf(f -> f.due >= t);
        set.frames.get(q).stream().filter(f -> f.due >= t).forEach(all::add);
        if (all.size() > 10) {
            return FULL;
        }
        set.frames.get(p).clear();
        set.frames.get(p).addAll(all);
        return all.size();
    }

    private boolean noFrame(int p, int f) {
        return f < 0 || f >= set.frames.get(p).size();
    }

    int written(int p, int f, int k) {
        if (p < 0 || p > 3 || k < -1) {
            return OUTSIDE;
        }
        if (noFrame(p, f)) {
            return NONE;
        }
        String text = "frame " + p + " " + set.frames.get(p).get(f).size + " " + set.frames.get(p).get(f).due;
        return k == -1 ? text.length() : k >= text.length() ? NONE : (int) text.charAt(k);
    }

    int told(int p, int what) {
        if (p < 0 || p > 3 || what < 0 || what > 4) {
            return OUTSIDE;
        }
        List<Frame> frames = set.frames.get(p);
        return switch (what) {
            case 0 -> set.room[p];
            case 1 -> set.clock[p];
            case 2 -> frames.size();
            case 3 -> frames.stream().mapToInt(Frame::due).max().orElse(NONE);
            default -> frames.stream().mapToInt(Frame::size).sum();
        };
    }

    int packet(int tick, int i, int what) {
        if (tick < 0 || tick > 99 || i < 0 || i >= set.wide || what < 0 || what > 3) {
            return OUTSIDE;
        }
        Packet packet = woven().packets.get(tick * set.wide + i);
        return switch (what) {
            case 0 -> packet.kind;
            case 1 -> packet.programme;
            case 2 -> packet.frame;
            default -> packet.counter;
        };
    }

    int held(int p, int tick) {
        return p < 0 || p > 3 || tick < 0 || tick > 99 ? OUTSIDE : woven().held[p][tick];
    }

    int frame(int p, int f, int what) {
        if (p < 0 || p > 3 || what < 0 || what > 5) {
            return OUTSIDE;
        }
        if (noFrame(p, f)) {
            return NONE;
        }
        List<Packet> own = woven().packets.stream()
            .filter(k -> k.kind == 3 && k.programme == p && k.frame == f).toList();
        return switch (what) {
            case 0 -> set.frames.get(p).get(f).size;
            case 1 -> set.frames.get(p).get(f).due;
            case 2 -> own.size();
            case 3 -> own.isEmpty() ? NONE : own.get(0).tick;
            case 4 -> own.isEmpty() ? NONE : own.get(own.size() - 1).tick;
            default -> woven().late(p, f) ? 0 : 1;
        };
    }

    int sent(int what) {
        if (what < 0 || what > 7) {
            return OUTSIDE;
        }
        if (what < 4) {
            return (int) woven().packets.stream().filter(k -> k.kind == what).count();
        }
        int never = 0;
        int first = 100;
        for (int p = 0; p < 4; p++) {
            for (int f = 0; f < set.frames.get(p).size(); f++) {
                never += set.frames.get(p).get(f).size - woven().ofFrame(p, f);
                if (woven().late(p, f)) {
                    first = Math.min(first, set.frames.get(p).get(f).due);
                }
            }
        }
        return switch (what) {
            case 4 -> count(2) - woven().lates();
            case 5 -> woven().lates();
            case 6 -> never;
            default -> first == 100 ? NONE : first;
        };
    }

    int most(int p) {
        if (p < 0 || p > 3) {
            return OUTSIDE;
        }
        int most = 0;
        for (int held : woven().held[p]) {
            most = Math.max(most, held);
        }
        return most;
    }

    int needs() {
        for (int wide = 1; wide <= 4; wide++) {
            Settings other = set.copy();
            other.wide = wide;
            if (new Woven(other).lates() == 0) {
                return wide;
            }
        }
        return NONE;
    }

    int room(int p) {
        if (p < 0 || p > 3) {
            return OUTSIDE;
        }
        for (int room = 1; room <= 40; room++) {
            Settings other = set.copy();
            other.room[p] = room;
            if (new Woven(other).lates() == 0) {
                return room;
            }
        }
        return NONE;
    }

    int without(int p) {
        if (p < 0 || p > 3) {
            return OUTSIDE;
        }
        Settings other = set.copy();
        other.frames.get(p).clear();
        other.clock[p] = 0;
        return new Woven(other).lates();
    }

    int image(int k) {
        if (k < 0 || k > 1) {
            return OUTSIDE;
        }
        images[k] = set.copy();
        return 1;
    }

    int restore(int k) {
        if (k < 0 || k > 1) {
            return OUTSIDE;
        }
        if (images[k] == null) {
            return STATE;
        }
        set = images[k].copy();
        woven = null;
        return 1;
    }

    int count(int what) {
        return switch (what) {
            case 0 -> set.wide;
            case 1 -> set.table;
            case 2 -> set.frames.stream().mapToInt(List::size).sum();
            case 3 -> typed.length();
            case 4 -> told;
            case 5 -> (images[0] == null ? 0 : 1) + (images[1] == null ? 0 : 2);
            default -> OUTSIDE;
        };
    }
}
