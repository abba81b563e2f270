import java.util.ArrayList;
import java.util.Collections;
import java.util.List;
import java.util.Set;
import java.util.TreeSet;

/**
 * A second telling of the document, as slow and literal as can be: lists of members are sets, and in
 * every part each node is worked out from a copy of all nodes as they were before that part.
 */
final class Model {
    enum Mode { OFF, LISTEN, COLD, ACTIVE, PASSIVE, FROZEN }

    enum Kind { START, FULL }

    static final class Frame {
        int sender;
        Kind kind;
        int time;
        Set<Integer> members;
        int skew;
    }

    static final class State {
        Mode mode = Mode.OFF;
        int turn, time, agreed, failed, wait, heard, tries, ack, suspect, skew, rate;
        Set<Integer> members = new TreeSet<>();
        List<Integer> deviations = new ArrayList<>();
        boolean muted, deaf;

        State copy() {
            State c = new State();
            c.mode = mode;
            c.turn = turn;
            c.time = time;
            c.agreed = agreed;
            c.failed = failed;
            c.wait = wait;
            c.heard = heard;
            c.tries = tries;
            c.ack = ack;
            c.suspect = suspect;
            c.skew = skew;
            c.rate = rate;
            c.members = new TreeSet<>(members);
            c.deviations = new ArrayList<>(deviations);
            c.muted = muted;
            c.deaf = deaf;
            return c;
        }

        boolean inside() {
            return mode.ordinal() >= 2 && mode.ordinal() <= 4;
        }
    }

    final int n;
    private State[] nodes;
    private int slots;
    private int bus = -1;
    private Frame[] sent;

    Model(int wish) {
        n = wish < 4 ? 4 : wish > 6 ? 6 : wish;
        nodes = new State[n];
        for (int k = 0; k < n; k++) {
            nodes[k] = new State();
        }
    }

    private boolean none(int k) {
        return k < 0 || k > n - 1;
    }

    private boolean noneOrOff(int k) {
        return none(k) || nodes[k].mode == Mode.OFF;
    }

    private void beginListening(State s, int own) {
        s.mode = Mode.LISTEN;
        s.wait = 2 * n + own;
        s.heard = 0;
        s.deviations.clear();
    }

    boolean on(int k, int rate) {
        if (none(k) || nodes[k].mode != Mode.OFF || Math.abs((long) rate) > 2) {
            return false;
        }
        nodes[k] = new State();
        beginListening(nodes[k], k);
        nodes[k].rate = rate;
        nodes[k].tries = 3;
        return true;
    }

    boolean off(int k) {
        if (noneOrOff(k)) {
            return false;
        }
        nodes[k].mode = Mode.OFF;
        nodes[k].muted = nodes[k].deaf = false;
        return true;
    }

    boolean thaw(int k) {
        if (none(k) || nodes[k].mode != Mode.FROZEN) {
            return false;
        }
        beginListening(nodes[k], k);
        nodes[k].tries = 3;
        return true;
    }

    boolean mute(int k) {
        if (noneOrOff(k) || nodes[k].muted) {
            return false;
        }
        return nodes[k].muted = true;
    }

    boolean deafen(int k) {
        if (noneOrOff(k) || nodes[k].deaf) {
            return false;
        }
        return nodes[k].deaf = true;
    }

    boolean shift(int k, int ticks) {
        if (noneOrOff(k) || Math.abs((long) ticks) > 1000) {
            return false;
        }
        nodes[k].skew += ticks;
        return true;
    }

    int run(int count) {
        if (count < 0 || count > 40) {
            return -1;
        }
        int frames = 0;
        for (int i = 0; i < count; i++) {
            if (slot()) {
                frames++;
            }
        }
        return frames;
    }

    private boolean slot() {
        slots++;
        for (State s : nodes) {
            if (s.mode != Mode.OFF) {
                s.skew += s.rate;
            }
            if (s.inside()) {
                s.turn = (s.turn + 1) % n;
                s.time = (s.time + 1) % 65536;
            }
        }
        Frame frame = partTwo();
        partThree(frame);
        partFour();
        return frame != null;
    }

    private Frame partTwo() {
        State[] after = new State[n];
        sent = new Frame[n];
        List<Frame> frames = new ArrayList<>();
        for (int k = 0; k < n; k++) {
            after[k] = nodes[k].copy();
            Kind kind = partTwoOf(after[k], k);
            if (kind != null) {
                Frame f = new Frame();
                f.sender = k;
                f.kind = kind;
                f.time = after[k].time;
                f.members = new TreeSet<>(after[k].members);
                f.skew = after[k].skew;
                sent[k] = f;
                frames.add(f);
            }
        }
        nodes = after;
        bus = frames.isEmpty() ? -1 : -2;
        if (frames.size() != 1) {
            return null;
        }
        Frame one = frames.get(0);
        if (nodes[one.sender].muted) {
            nodes[one.sender].muted = false;
            bus = -1;
            return null;
        }
        bus = one.kind == Kind.FULL ? one.sender + 8 : one.sender;
        return one;
    }

    private Kind partTwoOf(State s, int me) {
        if (s.mode == Mode.LISTEN) {
            s.wait -= 1;
            if (s.wait == 0 && s.tries == 0) {
                s.mode = Mode.FROZEN;
            } else if (s.wait == 0) {
                s.tries -= 1;
                s.mode = Mode.COLD;
                s.turn = me;
                s.time = 0;
                s.members = new TreeSet<>(List.of(me));
                s.agreed = 1;
                s.failed = 0;
                s.ack = 0;
                return Kind.START;
            }
            return null;
        }
        if (!s.inside() || s.turn != me) {
            return null;
        }
        if (s.mode == Mode.COLD && s.agreed == 1 && s.failed == 0) {
            beginListening(s, me);
            return null;
        }
        if (!(s.agreed > s.failed)) {
            s.mode = Mode.FROZEN;
            return null;
        }
        s.mode = Mode.ACTIVE;
        s.members.add(me);
        s.agreed = 1;
        s.failed = 0;
        s.ack = 1;
        return Kind.FULL;
    }

    private void partThree(Frame frame) {
        State[] after = new State[n];
        for (int k = 0; k < n; k++) {
            State s = nodes[k].copy();
            after[k] = s;
            if (sent[k] != null || !(s.mode == Mode.LISTEN || s.inside())) {
                continue;
            }
            Frame heard = frame;
            boolean noise = bus == -2;
            if (bus != -1 && s.deaf) {
                s.deaf = false;
                noise = true;
                heard = null;
            }
            if (s.mode == Mode.LISTEN) {
                listen(s, k, heard);
            } else if (heard == null && !noise) {
                s.members.remove(s.turn);
            } else {
                hear(s, k, heard);
            }
        }
        nodes = after;
    }

    private void listen(State s, int me, Frame f) {
        if (f == null) {
            return;
        }
        if (f.kind == Kind.START && s.heard == 0) {
            s.heard = 1;
            s.wait = 2 * n + me;
            return;
        }
        s.mode = Mode.PASSIVE;
        s.turn = f.sender;
        s.time = f.time;
        s.members = new TreeSet<>(f.members);
        s.skew = f.skew;
        s.agreed = 1;
        s.failed = 0;
        s.ack = 0;
    }

    private void hear(State s, int me, Frame f) {
        if (f == null || f.kind == Kind.START || f.sender != s.turn || f.time != s.time
            || f.skew - s.skew < -60 || f.skew - s.skew > 60) {
            bad(s);
            return;
        }
        Set<Integer> m = new TreeSet<>(s.members);
        m.add(s.turn);
        Set<Integer> withoutMe = new TreeSet<>(m);
        withoutMe.remove(me);
        Set<Integer> withoutSuspect = new TreeSet<>(m);
        withoutSuspect.remove(s.suspect);
        if (s.ack == 0) {
            if (f.members.equals(m)) {
                good(s, f);
            } else {
                bad(s);
            }
        } else if (s.ack == 1) {
            if (f.members.equals(m)) {
                s.ack = 0;
                good(s, f);
            } else if (f.members.equals(withoutMe)) {
                s.ack = 2;
                s.suspect = s.turn;
                s.members.add(s.turn);
            } else {
                bad(s);
            }
        } else if (f.members.equals(withoutSuspect)) {
            s.members.remove(s.suspect);
            s.failed += 1;
            s.ack = 0;
            good(s, f);
        } else if (f.members.equals(withoutMe)) {
            s.members.remove(me);
            s.mode = Mode.PASSIVE;
            s.agreed += 1;
            s.ack = 0;
            good(s, f);
        } else {
            bad(s);
        }
    }

    private void good(State s, Frame f) {
        s.members.add(s.turn);
        s.agreed += 1;
        if (s.deviations.size() == 4) {
            s.deviations.remove(0);
        }
        s.deviations.add(f.skew - s.skew);
    }

    private void bad(State s) {
        s.members.remove(s.turn);
        s.failed += 1;
    }

    private void partFour() {
        for (State s : nodes) {
            if (s.inside() && s.turn == n - 1 && s.deviations.size() == 4) {
                List<Integer> sorted = new ArrayList<>(s.deviations);
                Collections.sort(sorted);
                s.skew += (int) ((sorted.get(1) + sorted.get(2)) / 2.0);
            }
        }
    }

    int slots() {
        return slots;
    }

    int bus() {
        return bus;
    }

    int mode(int k) {
        return none(k) ? -1 : nodes[k].mode.ordinal();
    }

    int members(int k) {
        if (none(k) || !nodes[k].inside()) {
            return -1;
        }
        int sum = 0;
        for (int member : nodes[k].members) {
            sum += (int) Math.pow(2, member);
        }
        return sum;
    }

    int time(int k) {
        return none(k) || !nodes[k].inside() ? -1 : nodes[k].time * 8 + nodes[k].turn;
    }

    int counts(int k) {
        return none(k) || !nodes[k].inside() ? -1 : nodes[k].agreed * 1024 + nodes[k].failed * 4 + nodes[k].ack;
    }

    int patience(int k) {
        return none(k) || nodes[k].mode != Mode.LISTEN ? -1 : nodes[k].wait * 4 + nodes[k].tries;
    }

    int gap(int a, int b) {
        return noneOrOff(a) || noneOrOff(b) ? 0 : nodes[a].skew - nodes[b].skew;
    }

    boolean united() {
        int active = 0;
        for (State a : nodes) {
            for (State b : nodes) {
                if (a.mode == Mode.ACTIVE && b.mode == Mode.ACTIVE
                    && !(a.members.equals(b.members) && a.turn == b.turn && a.time == b.time)) {
                    return false;
                }
            }
            active += a.mode == Mode.ACTIVE ? 1 : 0;
        }
        return active >= 2;
    }
}
