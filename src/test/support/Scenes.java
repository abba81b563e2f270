/** Where several tests begin: objects after a short run of calls that was worked out by hand. */
final class Scenes {
    private Scenes() {
    }

    static SlotCluster on(int n, int... nodes) {
        SlotCluster x = new SlotCluster(n);
        for (int node : nodes) {
            x.on(node, 0);
        }
        return x;
    }

    static SlotCluster allOn(int n) {
        SlotCluster x = new SlotCluster(n);
        for (int node = 0; node < x.nodes(); node++) {
            x.on(node, 0);
        }
        return x;
    }

    /**
     * Slot 5 * N + 1: all nodes are ACTIVE, have all MEMBERS, TIME N and TURN 1. Node 0 sent a START in
     * slot 2 * N, node 1 the one that all others came in by, in slot 4 * N + 1.
     */
    static SlotCluster united(int n) {
        SlotCluster x = allOn(n);
        x.run(5 * n + 1);
        return x;
    }

    /** Slot 44: node 0 of four, alone, has used its three tries and is FROZEN. */
    static SlotCluster loneFrozen(int rate) {
        SlotCluster x = new SlotCluster(4);
        x.on(0, rate);
        x.run(40);
        x.run(4);
        return x;
    }

    /**
     * Slot 18 of six nodes: 0 FROZEN, 1 OFF, 2 PASSIVE, 3 COLD, 4 LISTEN, 5 ACTIVE. Node 3 was deaf to
     * the START of node 0 in slot 12, so it sent its own in slot 15, by which 2 and 5 came in.
     */
    static SlotCluster everyMode() {
        return everyMode(0, 0, 0, 0, 0);
    }

    /** The same with the clocks at odds: RATE 2, 1, -1, 2 and -2 of the nodes 0, 2, 3, 4 and 5. */
    static SlotCluster everyModeAtOdds() {
        return everyMode(2, 1, -1, 2, -2);
    }

    private static SlotCluster everyMode(int rate0, int rate2, int rate3, int rate4, int rate5) {
        SlotCluster x = new SlotCluster(6);
        x.on(0, rate0);
        x.on(2, rate2);
        x.on(3, rate3);
        x.on(5, rate5);
        x.deafen(3);
        x.run(18);
        x.on(4, rate4);
        return x;
    }

    /** Slot 27 of four nodes: 0, 1 and 2 are united; 3, deaf once in slot 22, is FROZEN with ACK 1. */
    static SlotCluster frozenAfterDeafness() {
        SlotCluster x = united(4);
        x.deafen(3);
        x.run(6);
        return x;
    }

    /** Slot 2 * n + senders - 1: so many nodes send a START at once, as the later ones listen shorter. */
    static SlotCluster startsAtOnce(int n, int senders) {
        SlotCluster x = new SlotCluster(n);
        for (int node = senders - 1; node > 0; node--) {
            x.on(node, 0);
            x.run(1);
        }
        x.on(0, 0);
        x.run(2 * n);
        return x;
    }

    /**
     * Slot 19, where node 3 sends a START two slots after that of node 1, in its own turn of both: node 0
     * comes in by the second and is two behind in TIME, with the same TURN as 1 and 2. Then 2 and 3 are
     * OFF, and 0 is muted.
     */
    static SlotCluster twoStartsTwoSlotsApart() {
        SlotCluster x = on(4, 0, 1, 2);
        x.run(8);
        x.on(3, 0);
        x.run(8);
        x.deafen(3);
        x.run(1);
        x.deafen(3);
        x.deafen(0);
        x.run(2);
        x.off(3);
        x.off(2);
        x.mute(0);
        return x;
    }
}
