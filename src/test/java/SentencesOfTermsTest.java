/** The sentences of "What it is" and of the first half of "Terms" that name a bound. */
public final class SentencesOfTermsTest {
    private static final Checks CHECKS = new Checks();

    public static void main(String[] args) {
        anObjectIsUsedForAtMost512Calls();
        nodesAre0ToNMinus1();
        turn0ToNMinus1();
        membersASumOf2ToTheKForNodesK();
        rateMinus2To2ByWhichItGoesWrongInEachSlot();
        atMostFourDeviationsANewOneInPlaceOfTheOldest();
        beginListeningWait2NAndTheOwnNumber();
        beginListeningHeard0();
        beginListeningNoDeviationsAfterOn();
        beginListeningNoDeviationsAfterThaw();
        aFrameHasTheSendersOwnNumberInMembers();
        CHECKS.end();
    }

    private static void due(String call, long got, long want) {
        CHECKS.due(call, got, want);
    }

    private static void anObjectIsUsedForAtMost512Calls() {
        CHECKS.sentence("An object is used for at most 512 calls after it has been made");
        SlotCluster x = Scenes.allOn(4);
        for (int call = 5; call <= 511; call++) {
            due("call " + call + ": run(40)", x.run(40), call == 5 ? 25 : 40);
        }
        int time = 507 * 40 - 17;
        due("call 512: time(0)", x.time(0), time * 8 + (1 + time) % 4);
    }

    private static void nodesAre0ToNMinus1() {
        CHECKS.sentence("NODES are 0 .. N - 1, N being 4, 5 or 6");
        for (int n = 4; n <= 6; n++) {
            SlotCluster x = new SlotCluster(n);
            due("mode(-1)", x.mode(-1), -1);
            due("mode(" + n + ")", x.mode(n), -1);
            for (int node = 0; node < n; node++) {
                due("mode(" + node + ")", x.mode(node), 0);
            }
            CHECKS.due("on(-1, 0)", x.on(-1, 0), false);
            CHECKS.due("on(" + n + ", 0)", x.on(n, 0), false);
            CHECKS.due("on(0, 0)", x.on(0, 0), true);
            CHECKS.due("on(" + (n - 1) + ", 0)", x.on(n - 1, 0), true);
        }
    }

    private static void turn0ToNMinus1() {
        CHECKS.sentence("TURN 0 .. N - 1 (whose turn it holds the slot to be)");
        for (int n = 4; n <= 6; n++) {
            SlotCluster x = Scenes.united(n);
            for (int slot = 1; slot <= 3 * n; slot++) {
                due("run(1)", x.run(1), 1);
                int turn = (1 + slot) % n;
                due("TURN in " + n + " nodes", x.time(0) % 8, turn);
                due("the node whose turn it is sends", x.bus(), 8 + turn);
            }
        }
    }

    private static void membersASumOf2ToTheKForNodesK() {
        CHECKS.sentence("MEMBERS (a sum of 2^k for nodes k)");
        int[] full = {15, 31, 63};
        for (int n = 4; n <= 6; n++) {
            SlotCluster x = Scenes.united(n);
            for (int node = 0; node < n; node++) {
                due("all of " + n + ": members(" + node + ")", x.members(node), full[n - 4]);
            }
            for (int node = 1; node < n; node++) {
                x.off(node);
            }
            x.run(n);
            due("alone of " + n + ": members(0)", x.members(0), 1);
        }
    }

    private static void rateMinus2To2ByWhichItGoesWrongInEachSlot() {
        CHECKS.sentence("a RATE -2 .. 2 by which it goes wrong in each slot");
        for (int rate = -2; rate <= 2; rate++) {
            SlotCluster x = new SlotCluster(4);
            CHECKS.due("on(0, " + rate + ")", x.on(0, rate), true);
            x.on(3, 0);
            for (int slot = 1; slot <= 7; slot++) {
                x.run(1);
                due("rate " + rate + ", slot " + slot + ": gap(0, 3)", x.gap(0, 3), rate * slot);
            }
        }
    }

    /** A node is shifted for the one slot in which it sends, so that just this frame deviates. */
    private static void sendShifted(SlotCluster x, int sender, int ticks) {
        x.shift(sender, ticks);
        due("run(1)", x.run(1), 1);
        due("bus()", x.bus(), 8 + sender);
        x.shift(sender, -ticks);
    }

    private static void atMostFourDeviationsANewOneInPlaceOfTheOldest() {
        CHECKS.sentence("at most four (a new one in place of the oldest when there are four)");
        SlotCluster x = Scenes.united(4);
        x.run(1);
        sendShifted(x, 3, 40);
        due("slot 23, of 0 0 0 40: gap(0, 2)", x.gap(0, 2), 0);
        x.run(1);
        sendShifted(x, 1, 10);
        sendShifted(x, 2, 20);
        sendShifted(x, 3, 30);
        due("slot 27: SKEW 25 by 40 10 20 30, and 5 by 0 0 10 20: gap(0, 3)", x.gap(0, 3), 20);
        due("slot 27: SKEW 25 by 40 0 20 30: gap(1, 0)", x.gap(1, 0), 0);
        due("slot 27: SKEW 20 by 40 0 10 30: gap(2, 0)", x.gap(2, 0), -5);
    }

    private static void beginListeningWait2NAndTheOwnNumber() {
        CHECKS.sentence("To BEGIN LISTENING: mode LISTEN, WAIT 2 * N + the node's own number");
        for (int n = 4; n <= 6; n++) {
            for (int node = 0; node < n; node++) {
                SlotCluster x = Scenes.on(n, node);
                int wait = 2 * n + node;
                due("on: mode(" + node + ")", x.mode(node), 1);
                due("on: patience(" + node + ")", x.patience(node), wait * 4 + 3);
                x.run(wait);
                x.run(n);
                due("after COLD: mode(" + node + ")", x.mode(node), 1);
                due("after COLD: patience(" + node + ")", x.patience(node), wait * 4 + 2);
            }
        }
        SlotCluster frozen = Scenes.loneFrozen(0);
        frozen.thaw(0);
        due("thaw: mode(0)", frozen.mode(0), 1);
        due("thaw: patience(0)", frozen.patience(0), 8 * 4 + 3);
    }

    private static void beginListeningHeard0() {
        CHECKS.sentence("To BEGIN LISTENING: .. HEARD 0");
        SlotCluster cold = Scenes.on(4, 0, 1);
        due("STARTs in the slots 8, 17 and 25", cold.run(25), 3);
        due("heard before its own START only: mode(1)", cold.mode(1), 1);
        due("heard before its own START only: patience(1)", cold.patience(1), 9 * 4 + 2);
        SlotCluster again = Scenes.on(4, 0, 3);
        again.run(10);
        again.off(3);
        again.on(3, 0);
        again.run(10);
        due("slot 20: a second START", again.bus(), 0);
        due("heard before off only: mode(3)", again.mode(3), 1);
    }

    private static void beginListeningNoDeviationsAfterOn() {
        CHECKS.sentence("To BEGIN LISTENING: .. no deviations (after on)");
        SlotCluster x = Scenes.united(4);
        x.shift(2, 30);
        x.run(5);
        x.off(2);
        x.on(2, 0);
        x.run(1);
        due("slot 27: comes in: mode(2)", x.mode(2), 4);
        due("slot 27: 0 -30 -30 -30 are forgotten: gap(2, 0)", x.gap(2, 0), 0);
    }

    private static void beginListeningNoDeviationsAfterThaw() {
        CHECKS.sentence("To BEGIN LISTENING: .. no deviations (after thaw)");
        SlotCluster x = Scenes.united(4);
        x.shift(3, 30);
        x.run(6);
        due("slot 27: four of -30 for node 3, 30 30 0 0 for the others: gap(3, 0)", x.gap(3, 0), -15);
        x.deafen(3);
        x.run(1);
        x.deafen(3);
        x.run(3);
        due("slot 31: mode(3)", x.mode(3), 5);
        x.thaw(3);
        x.run(4);
        due("slot 35: mode(3)", x.mode(3), 3);
        due("slot 35: two deviations only: gap(3, 0)", x.gap(3, 0), 0);
    }

    private static void aFrameHasTheSendersOwnNumberInMembers() {
        CHECKS.sentence("(its own number being in MEMBERS then)");
        SlotCluster x = Scenes.on(4, 0, 1, 2);
        x.run(20);
        x.on(3, 0);
        x.run(1);
        due("slot 21: not yet a member: members(3)", x.members(3), 7);
        x.run(2);
        due("slot 23: bus()", x.bus(), 11);
        due("slot 23: members(3)", x.members(3), 15);
        due("slot 23: who hears it agrees: counts(0)", x.counts(0), 4 * 1024);
    }
}
