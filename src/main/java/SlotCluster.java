/** A cluster of 4 to 6 nodes that share one bus by turns, without a master. */
public final class SlotCluster {
    private static final int FEWEST_NODES = 4;
    private static final int MOST_NODES = 6;
    private static final int MOST_SLOTS = 40;
    private static final int MOST_RATE = 2;
    private static final int MOST_SHIFT = 1000;

    private static final int OFF = 0;
    private static final int LISTEN = 1;
    private static final int COLD = 2;
    private static final int ACTIVE = 3;
    private static final int PASSIVE = 4;
    private static final int FROZEN = 5;

    private static final int NOTHING = 0;
    private static final int NOISE = 1;
    private static final int START = 2;
    private static final int FULL = 3;

    private static final int SETTLED = 0;
    private static final int JUST_SENT = 1;
    private static final int IN_DOUBT = 2;

    private static final int GOOD = 0;
    private static final int BAD = 1;
    private static final int UNCOUNTED = 2;

    private static final int ALL_TRIES = 3;
    private static final int LAST_TIME = 65535;
    private static final int WIDEST_DEVIATION = 60;
    private static final int KEPT_DEVIATIONS = 4;

    private static final int NO_SUCH = -1;

    private final Node[] cluster;
    private final Wire wire;
    private int slotsGone;

    public SlotCluster(int n) {
        int size = Math.max(FEWEST_NODES, Math.min(MOST_NODES, n));
        cluster = new Node[size];
        for (int k = 0; k < size; k++) {
            cluster[k] = new Node(k, size);
        }
        wire = new Wire();
    }

    public int nodes() {
        return cluster.length;
    }

    public boolean on(int node, int rate) {
        Node found = find(node);
        if (found == null || found.mode != OFF || rate < -MOST_RATE || rate > MOST_RATE) {
            return false;
        }
        found.switchOn(rate);
        return true;
    }

    public boolean off(int node) {
        Node found = findSwitchedOn(node);
        if (found == null) {
            return false;
        }
        found.switchOff();
        return true;
    }

    public boolean thaw(int node) {
        Node found = find(node);
        if (found == null || found.mode != FROZEN) {
            return false;
        }
        found.beginListening();
        found.tries = ALL_TRIES;
        return true;
    }

    public boolean mute(int node) {
        Node found = findSwitchedOn(node);
        if (found == null || found.muted) {
            return false;
        }
        found.muted = true;
        return true;
    }

    public boolean deafen(int node) {
        Node found = findSwitchedOn(node);
        if (found == null || found.deaf) {
            return false;
        }
        found.deaf = true;
        return true;
    }

    public boolean shift(int node, int ticks) {
        Node found = findSwitchedOn(node);
        if (found == null || ticks < -MOST_SHIFT || ticks > MOST_SHIFT) {
            return false;
        }
        found.skew += ticks;
        return true;
    }

    public int run(int n) {
        if (n < 0 || n > MOST_SLOTS) {
            return -1;
        }
        int frames = 0;
        for (int i = 0; i < n; i++) {
            passOneSlot();
            if (wire.hasFrame()) {
                frames++;
            }
        }
        return frames;
    }

    public int slots() {
        return slotsGone;
    }

    public int bus() {
        switch (wire.kind) {
            case NOISE:
                return -2;
            case START:
                return wire.sender;
            case FULL:
                return wire.sender + 8;
            default:
                return -1;
        }
    }

    public int mode(int node) {
        Node found = find(node);
        return found == null ? NO_SUCH : found.mode;
    }

    public int members(int node) {
        Node found = findInside(node);
        return found == null ? NO_SUCH : found.members;
    }

    public int time(int node) {
        Node found = findInside(node);
        return found == null ? NO_SUCH : found.time * 8 + found.turn;
    }

    public int counts(int node) {
        Node found = findInside(node);
        return found == null ? NO_SUCH : found.agreed * 1024 + found.failed * 4 + found.ack;
    }

    public int patience(int node) {
        Node found = find(node);
        if (found == null || found.mode != LISTEN) {
            return NO_SUCH;
        }
        return found.slotsToListen * 4 + found.tries;
    }

    public int gap(int a, int b) {
        Node one = findSwitchedOn(a);
        Node other = findSwitchedOn(b);
        return one == null || other == null ? 0 : one.skew - other.skew;
    }

    public boolean united() {
        Node first = null;
        int active = 0;
        for (Node node : cluster) {
            if (node.mode == ACTIVE) {
                active++;
                if (first == null) {
                    first = node;
                } else if (!node.seesTheSameAs(first)) {
                    return false;
                }
            }
        }
        return active >= 2;
    }

    private Node find(int node) {
        return node < 0 || node >= cluster.length ? null : cluster[node];
    }

    private Node findSwitchedOn(int node) {
        Node found = find(node);
        return found == null || found.mode == OFF ? null : found;
    }

    private Node findInside(int node) {
        Node found = find(node);
        return found == null || !found.isInside() ? null : found;
    }

    private void passOneSlot() {
        slotsGone++;
        for (Node node : cluster) {
            node.moveClock();
        }
        sendAll();
        loseMutedFrame();
        hearAll();
        for (Node node : cluster) {
            node.correctClock();
        }
    }

    private void sendAll() {
        wire.fallSilent();
        for (Node node : cluster) {
            node.chooseWhatToSend();
            if (node.sending != NOTHING) {
                wire.carry(node);
            }
        }
    }

    /** Only a frame sent alone is lost: amid noise a muted node stays muted. */
    private void loseMutedFrame() {
        if (!wire.hasFrame()) {
            return;
        }
        Node sender = find(wire.sender);
        if (sender != null && sender.muted) {
            sender.muted = false;
            wire.fallSilent();
        }
    }

    private void hearAll() {
        for (Node node : cluster) {
            if (node.sending != NOTHING) {
                continue;
            }
            if (node.mode == LISTEN) {
                node.hearListening(node.kindHeard(wire), wire);
            } else if (node.isInside()) {
                node.hearInside(node.kindHeard(wire), wire);
            }
        }
    }

    /** What the bus has in a slot; a frame's numbers are copied, as the sender's may change after. */
    private static final class Wire {
        int kind;
        int sender;
        int time;
        int members;
        int skew;

        Wire() {
            kind = NOTHING;
        }

        void fallSilent() {
            kind = NOTHING;
        }

        void carry(Node from) {
            kind = kind == NOTHING ? from.sending : NOISE;
            sender = from.number;
            time = from.time;
            members = from.members;
            skew = from.skew;
        }

        boolean hasFrame() {
            return kind == START || kind == FULL;
        }
    }

    /** The latest deviations of one node, at most four. */
    private static final class Deviations {
        private final int[] latest;
        private int count;
        private int next;

        Deviations() {
            latest = new int[KEPT_DEVIATIONS];
        }

        void forget() {
            count = 0;
            next = 0;
        }

        void keep(int deviation) {
            if (next >= KEPT_DEVIATIONS) {
                next = 0;
            }
            latest[next] = deviation;
            next++;
            if (count < KEPT_DEVIATIONS) {
                count++;
            }
        }

        boolean areComplete() {
            return count == KEPT_DEVIATIONS;
        }

        /** The mean of the two that are left without the least and the greatest. */
        int middle() {
            int sum = 0;
            int least = latest[0];
            int greatest = latest[0];
            for (int deviation : latest) {
                sum += deviation;
                least = Math.min(least, deviation);
                greatest = Math.max(greatest, deviation);
            }
            return (sum - least - greatest) / 2;
        }
    }

    /** One node with its own numbers; it sees the others only through the wire. */
    private static final class Node {
        final int number;
        final int size;
        final Deviations deviations;
        int mode;
        int turn;
        int time;
        int members;
        int agreed;
        int failed;
        int slotsToListen;
        boolean heardStart;
        int tries;
        int ack;
        int suspect;
        int skew;
        int rate;
        boolean muted;
        boolean deaf;
        int sending;

        Node(int number, int size) {
            this.number = number;
            this.size = size;
            deviations = new Deviations();
            mode = OFF;
            ack = SETTLED;
            sending = NOTHING;
        }

        boolean isInside() {
            return mode == COLD || mode == ACTIVE || mode == PASSIVE;
        }

        boolean seesTheSameAs(Node other) {
            return members == other.members && turn == other.turn && time == other.time;
        }

        void switchOn(int newRate) {
            beginListening();
            rate = newRate;
            tries = ALL_TRIES;
            skew = 0;
            agreed = 0;
            failed = 0;
            turn = 0;
            time = 0;
            members = 0;
            ack = SETTLED;
        }

        void switchOff() {
            mode = OFF;
            muted = false;
            deaf = false;
        }

        void beginListening() {
            mode = LISTEN;
            listenLong();
            heardStart = false;
            deviations.forget();
        }

        /** The own number makes the waits differ, so that not all nodes start at once. */
        private void listenLong() {
            slotsToListen = 2 * size + number;
        }

        void moveClock() {
            if (mode == OFF) {
                return;
            }
            skew += rate;
            if (isInside()) {
                turn = turn == size - 1 ? 0 : turn + 1;
                time = time == LAST_TIME ? 0 : time + 1;
            }
        }

        void chooseWhatToSend() {
            sending = NOTHING;
            if (mode == LISTEN) {
                listenOneSlot();
            } else if (isInside() && turn == number) {
                takeOwnTurn();
            }
        }

        private void listenOneSlot() {
            slotsToListen--;
            if (slotsToListen != 0) {
                return;
            }
            if (tries == 0) {
                mode = FROZEN;
                return;
            }
            tries--;
            mode = COLD;
            turn = number;
            time = 0;
            members = 1 << number;
            countAnew(SETTLED);
            sending = START;
        }

        private void takeOwnTurn() {
            if (mode == COLD && agreed == 1 && failed == 0) {
                beginListening();
            } else if (agreed <= failed) {
                mode = FROZEN;
            } else {
                mode = ACTIVE;
                join(number);
                countAnew(JUST_SENT);
                sending = FULL;
            }
        }

        /** A node counts itself among those that agree, so it starts from one. */
        private void countAnew(int newAck) {
            agreed = 1;
            failed = 0;
            ack = newAck;
        }

        int kindHeard(Wire wire) {
            if (!deaf || wire.kind == NOTHING) {
                return wire.kind;
            }
            deaf = false;
            return NOISE;
        }

        void hearListening(int kind, Wire wire) {
            if (kind == FULL || (kind == START && heardStart)) {
                comeIn(wire);
            } else if (kind == START) {
                heardStart = true;
                listenLong();
            }
        }

        private void comeIn(Wire frame) {
            mode = PASSIVE;
            turn = frame.sender;
            time = frame.time;
            members = frame.members;
            skew = frame.skew;
            countAnew(SETTLED);
        }

        void hearInside(int kind, Wire wire) {
            if (kind == NOTHING) {
                leave(turn);
                return;
            }
            int verdict = kind == FULL && isDue(wire) ? compareMembers(wire.members) : BAD;
            if (verdict == BAD) {
                leave(turn);
                failed++;
                return;
            }
            join(turn);
            if (verdict == GOOD) {
                agreed++;
                deviations.keep(wire.skew - skew);
            }
        }

        private boolean isDue(Wire frame) {
            int deviation = frame.skew - skew;
            return frame.sender == turn && frame.time == time
                && deviation >= -WIDEST_DEVIATION && deviation <= WIDEST_DEVIATION;
        }

        private int compareMembers(int theirs) {
            int mine = members | (1 << turn);
            if (ack == IN_DOUBT) {
                return settleDoubt(theirs, mine);
            }
            if (theirs == mine) {
                ack = SETTLED;
                return GOOD;
            }
            if (ack == JUST_SENT && theirs == without(mine, number)) {
                ack = IN_DOUBT;
                suspect = turn;
                return UNCOUNTED;
            }
            return BAD;
        }

        /** A second sender tells whether the suspect or the node itself went wrong. */
        private int settleDoubt(int theirs, int mine) {
            if (theirs == without(mine, suspect)) {
                leave(suspect);
                failed++;
            } else if (theirs == without(mine, number)) {
                leave(number);
                mode = PASSIVE;
                agreed++;
            } else {
                return BAD;
            }
            ack = SETTLED;
            return GOOD;
        }

        private static int without(int list, int k) {
            return list & ~(1 << k);
        }

        private void join(int k) {
            members |= 1 << k;
        }

        private void leave(int k) {
            members &= ~(1 << k);
        }

        void correctClock() {
            if (isInside() && turn == size - 1 && deviations.areComplete()) {
                skew += deviations.middle();
            }
        }
    }
}
