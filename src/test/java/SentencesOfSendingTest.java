/** The sentences of "A SLOT goes by in these parts", parts 1 and 2: the clock and who sends, in runs worked out by hand. */
public final class SentencesOfSendingTest {
    private static final Checks CHECKS = new Checks();

    public static void main(String[] args) {
        partOne();
        partTwoListening();
        partTwoInside();
        partTwoTheBus();
        CHECKS.end();
    }

    private static void due(String call, long got, long want) {
        CHECKS.due(call, got, want);
    }

    private static void partOne() {
        eachNodeThatIsNotOffSkewGrowsByRate();
        turnBecomesTheNextOne0AfterNMinus1();
        timeGrowsBy1And0After65535();
    }

    private static void eachNodeThatIsNotOffSkewGrowsByRate() {
        CHECKS.sentence("For each node that is not OFF: SKEW grows by RATE.");
        SlotCluster x = Scenes.everyModeAtOdds();
        gapsToNode4(x, new int[] {36, 0, -12, -18, 0, -21});
        due("slot 19, nobody's turn: run(1)", x.run(1), 0);
        gapsToNode4(x, new int[] {38, 0, -11, -19, 2, -23});
        x.mute(2);
        due("slot 20, the frame is lost: run(1)", x.run(1), 0);
        gapsToNode4(x, new int[] {40, 0, -10, -20, 4, -25});
    }

    private static void gapsToNode4(SlotCluster x, int[] skews) {
        for (int node = 0; node < skews.length; node++) {
            int gap = x.mode(node) == 0 ? 0 : skews[node] - skews[4];
            due("slot " + x.slots() + ", mode " + x.mode(node) + ": gap(" + node + ", 4)", x.gap(node, 4), gap);
        }
    }

    private static void turnBecomesTheNextOne0AfterNMinus1() {
        CHECKS.sentence("TURN becomes the next one (0 after N - 1)");
        for (int n = 4; n <= 6; n++) {
            SlotCluster x = Scenes.united(n);
            for (int slot = 1; slot <= 2 * n; slot++) {
                x.run(1);
                for (int node = 0; node < n; node++) {
                    due("of " + n + ": time(" + node + ")", x.time(node), (n + slot) * 8 + (1 + slot) % n);
                }
            }
        }
    }

    /** More than 512 calls, which the document leaves free; the class keeps the sentence there too. */
    private static void timeGrowsBy1And0After65535() {
        CHECKS.sentence("TIME grows by 1 (0 after 65535)");
        for (int n = 4; n <= 6; n++) {
            SlotCluster x = Scenes.united(n);
            int left = 65535 - n;
            while (left > 0) {
                int slots = Math.min(40, left);
                due("of " + n + ": run(" + slots + ")", x.run(slots), slots);
                left -= slots;
            }
            timeIs(x, 65535, 65536 % n);
            due("of " + n + ": the first slot of the new round of TIME: run(1)", x.run(1), 1);
            timeIs(x, 0, 65537 % n);
            x.run(1);
            timeIs(x, 1, 65538 % n);
        }
    }

    private static void timeIs(SlotCluster x, int time, int turn) {
        for (int node = 0; node < x.nodes(); node++) {
            due("time(" + node + ")", x.time(node), time * 8 + turn);
            due("members(" + node + ")", x.members(node), (1 << x.nodes()) - 1);
        }
        due("bus()", x.bus(), 8 + turn);
        CHECKS.due("united()", x.united(), true);
    }

    private static void partTwoListening() {
        whenWaitIs0Then();
        whenTriesIs0TheNodeIsFrozen();
        itSendsAStartFrame();
        itsCountsBeginAnewWithAStart();
        aNodeThatBeganSoInThisSlotNotOnceMore();
    }

    private static void whenWaitIs0Then() {
        CHECKS.sentence("LISTEN: WAIT goes down by 1. When it is 0 then");
        for (int n = 4; n <= 6; n++) {
            for (int node = 0; node < n; node++) {
                SlotCluster x = Scenes.on(n, node);
                for (int wait = 2 * n + node - 1; wait > 0; wait--) {
                    due("run(1)", x.run(1), 0);
                    due("mode(" + node + ") with WAIT " + wait, x.mode(node), 1);
                    due("patience(" + node + ")", x.patience(node), wait * 4 + 3);
                }
                due("WAIT 0: run(1)", x.run(1), 1);
                due("WAIT 0: mode(" + node + ")", x.mode(node), 2);
            }
        }
    }

    private static void whenTriesIs0TheNodeIsFrozen() {
        CHECKS.sentence("when TRIES is 0 the node is FROZEN");
        for (int n = 4; n <= 6; n++) {
            for (int node = 0; node < n; node++) {
                SlotCluster x = Scenes.on(n, node);
                int wait = 2 * n + node;
                for (int tries = 3; tries > 0; tries--) {
                    due("before a START: patience(" + node + ")", x.patience(node), wait * 4 + tries);
                    due("a START: run(" + wait + ")", x.run(wait), 1);
                    due("a START: mode(" + node + ")", x.mode(node), 2);
                    due("nobody answers: run(" + n + ")", x.run(n), 0);
                }
                due("no more tries: patience(" + node + ")", x.patience(node), wait * 4);
                due("no more tries: run(" + (wait - 1) + ")", x.run(wait - 1), 0);
                due("the last slot: patience(" + node + ")", x.patience(node), 4);
                due("WAIT 0: run(1)", x.run(1), 0);
                due("WAIT 0: mode(" + node + ")", x.mode(node), 5);
                due("WAIT 0: bus()", x.bus(), -1);
            }
        }
    }

    private static void itSendsAStartFrame() {
        CHECKS.sentence("otherwise TRIES goes down by 1, the node is COLD, TURN is its own number, TIME 0, MEMBERS itself"
            + " alone, AGREED 1, FAILED 0, ACK 0, and it sends a START frame");
        for (int n = 4; n <= 6; n++) {
            for (int node = 0; node < n; node++) {
                SlotCluster x = Scenes.on(n, node);
                due("run", x.run(2 * n + node), 1);
                due("bus()", x.bus(), node);
                due("mode(" + node + ")", x.mode(node), 2);
                due("time(" + node + ")", x.time(node), node);
                due("members(" + node + ")", x.members(node), 1 << node);
                due("counts(" + node + ")", x.counts(node), 1024);
            }
        }
    }

    private static void itsCountsBeginAnewWithAStart() {
        CHECKS.sentence("TIME 0, MEMBERS itself alone, AGREED 1, FAILED 0, ACK 0 (whatever they were)");
        SlotCluster ackIs1 = Scenes.frozenAfterDeafness();
        due("mode(3)", ackIs1.mode(3), 5);
        startsAnew(ackIs1, 3, 11);
        SlotCluster agreedIs2 = afterFaults(6, new int[] {1, 2}, new int[] {4, 5});
        due("members(0)", agreedIs2.members(0), 9);
        agreedIs2.run(1);
        due("mode(0)", agreedIs2.mode(0), 5);
        startsAnew(agreedIs2, 0, 12);
    }

    private static void startsAnew(SlotCluster x, int node, int wait) {
        for (int other = 0; other < x.nodes(); other++) {
            if (other != node) {
                x.off(other);
            }
        }
        x.thaw(node);
        due("run(" + wait + ")", x.run(wait), 1);
        due("bus()", x.bus(), node);
        due("time(" + node + ")", x.time(node), node);
        due("members(" + node + ")", x.members(node), 1 << node);
        due("counts(" + node + ")", x.counts(node), 1024);
    }

    private static void aNodeThatBeganSoInThisSlotNotOnceMore() {
        CHECKS.sentence("(a node that began so in this slot not once more)");
        SlotCluster x = Scenes.on(4, 0);
        x.run(8);
        for (int slot = 8; slot < 12; slot++) {
            due("slot " + slot + ": mode(0)", x.mode(0), 2);
            x.run(1);
        }
        due("slot 12: mode(0)", x.mode(0), 1);
    }

    private static void partTwoInside() {
        coldAgreed1AndFailed0ItBeginsListening();
        whenAgreedIsNotGreaterThanFailedAnActiveNodeIsFrozen();
        whenAgreedIsNotGreaterThanFailedAPassiveNodeIsFrozen();
        otherwiseItIsActiveAndSendsAFullFrame();
        offAndFrozenNothing();
    }

    private static void coldAgreed1AndFailed0ItBeginsListening() {
        CHECKS.sentence("COLD, AGREED 1 and FAILED 0: it begins listening.");
        SlotCluster lone = Scenes.on(4, 0);
        lone.run(11);
        due("1 and 0: counts(0)", lone.counts(0), 1024);
        lone.run(1);
        due("1 and 0: mode(0)", lone.mode(0), 1);
        SlotCluster failed = Scenes.on(4, 0, 1);
        failed.deafen(1);
        failed.run(11);
        due("1 and 1: counts(0)", failed.counts(0), 1024 + 4);
        failed.run(1);
        due("1 and 1: mode(0)", failed.mode(0), 5);
        SlotCluster agreed = Scenes.on(4, 0, 1, 3);
        agreed.run(19);
        agreed.off(0);
        agreed.run(1);
        due("2 and 0: mode(1)", agreed.mode(1), 2);
        due("2 and 0: counts(1)", agreed.counts(1), 2 * 1024);
        agreed.run(1);
        due("2 and 0: mode(1) after", agreed.mode(1), 3);
        due("2 and 0: bus()", agreed.bus(), 9);
        SlotCluster both = Scenes.twoStartsTwoSlotsApart();
        both.run(1);
        due("2 and 1: mode(1)", both.mode(1), 2);
        due("2 and 1: counts(1)", both.counts(1), 2 * 1024 + 4);
        both.run(1);
        due("2 and 1: mode(1) after", both.mode(1), 3);
    }

    /**
     * Node 0 has sent; up to its next turn the frames of some others are BAD, as they are 61 ticks ahead,
     * and some others are silent.
     */
    private static SlotCluster afterFaults(int n, int[] ahead, int[] silent) {
        SlotCluster x = Scenes.united(n);
        x.run(n - 1);
        due("node 0 has sent: bus()", x.bus(), 8);
        for (int node : ahead) {
            x.shift(node, 61);
        }
        for (int node : silent) {
            x.off(node);
        }
        x.run(n - 1);
        return x;
    }

    private static void whenAgreedIsNotGreaterThanFailedAnActiveNodeIsFrozen() {
        CHECKS.sentence("when AGREED is not greater than FAILED, the node is FROZEN");
        agreedAndFailed(afterFaults(4, new int[] {}, new int[] {1, 2, 3}), 1024 + 1, 3);
        agreedAndFailed(afterFaults(4, new int[] {1}, new int[] {2, 3}), 1024 + 4 + 1, 5);
        agreedAndFailed(afterFaults(4, new int[] {1, 2}, new int[] {3}), 1024 + 8 + 1, 5);
        agreedAndFailed(afterFaults(4, new int[] {1}, new int[] {2}), 2 * 1024 + 4, 3);
        agreedAndFailed(afterFaults(4, new int[] {1}, new int[] {}), 3 * 1024 + 4, 3);
        agreedAndFailed(afterFaults(4, new int[] {}, new int[] {}), 4 * 1024, 3);
        agreedAndFailed(afterFaults(6, new int[] {1, 2}, new int[] {4, 5}), 2 * 1024 + 8, 5);
        agreedAndFailed(afterFaults(6, new int[] {1, 2}, new int[] {5}), 3 * 1024 + 8, 3);
    }

    private static void agreedAndFailed(SlotCluster x, int counts, int mode) {
        due("before its turn: counts(0)", x.counts(0), counts);
        x.run(1);
        due("from counts " + counts + ": mode(0)", x.mode(0), mode);
        due("from counts " + counts + ": bus()", x.bus(), mode == 3 ? 8 : -1);
    }

    private static void whenAgreedIsNotGreaterThanFailedAPassiveNodeIsFrozen() {
        CHECKS.sentence("COLD otherwise, ACTIVE or PASSIVE: when AGREED is not greater than FAILED, the node is FROZEN");
        SlotCluster x = Scenes.on(4, 0, 1, 2);
        x.run(20);
        x.on(3, 0);
        x.run(1);
        x.deafen(3);
        x.run(1);
        due("slot 22: mode(3)", x.mode(3), 4);
        due("slot 22: counts(3)", x.counts(3), 1024 + 4);
        x.run(1);
        due("slot 23: mode(3)", x.mode(3), 5);
        due("slot 23: bus()", x.bus(), -1);
    }

    private static void otherwiseItIsActiveAndSendsAFullFrame() {
        CHECKS.sentence("otherwise it is ACTIVE, joins its own MEMBERS, AGREED becomes 1, FAILED 0, ACK 1, and it sends a"
            + " FULL frame");
        SlotCluster x = Scenes.on(4, 0, 1, 2);
        x.run(20);
        x.on(3, 0);
        x.run(2);
        due("slot 22: counts(3)", x.counts(3), 2 * 1024);
        due("slot 22: members(3)", x.members(3), 7);
        x.run(1);
        due("slot 23: mode(3)", x.mode(3), 3);
        due("slot 23: members(3)", x.members(3), 15);
        due("slot 23: counts(3)", x.counts(3), 1024 + 1);
        due("slot 23: bus()", x.bus(), 11);
        SlotCluster once = afterFaults(4, new int[] {1}, new int[] {2});
        once.run(1);
        due("FAILED 1 before: counts(0)", once.counts(0), 1024 + 1);
    }

    private static void offAndFrozenNothing() {
        CHECKS.sentence("OFF and FROZEN: nothing.");
        due("all OFF: run(40)", new SlotCluster(6).run(40), 0);
        SlotCluster frozen = Scenes.loneFrozen(0);
        due("FROZEN: run(40)", frozen.run(40), 0);
        due("FROZEN: mode(0)", frozen.mode(0), 5);
        SlotCluster x = Scenes.united(4);
        x.off(2);
        due("one OFF: run(4)", x.run(4), 3);
        due("one OFF: mode(2)", x.mode(2), 0);
        due("one FROZEN: run(4)", Scenes.frozenAfterDeafness().run(4), 3);
    }

    private static void partTwoTheBus() {
        theBusHasNoFrameNoiseOrOneFrame();
        whenTheOneSenderIsMuted();
        mutedAmidNoise();
        inThePartsTheNodesDoNotSeeOfOneAnother();
    }

    private static void theBusHasNoFrameNoiseOrOneFrame() {
        CHECKS.sentence("then the bus has no frame (nobody sends), NOISE (two or more send) or one frame");
        SlotCluster nobody = Scenes.on(4, 0);
        nobody.run(7);
        due("nobody: bus()", nobody.bus(), -1);
        for (int n = 4; n <= 6; n++) {
            due("one of " + n + ": bus()", Scenes.startsAtOnce(n, 1).bus(), 0);
            for (int senders = 2; senders <= n; senders++) {
                SlotCluster x = Scenes.startsAtOnce(n, senders);
                due(senders + " of " + n + ": bus()", x.bus(), -2);
                for (int node = 0; node < senders; node++) {
                    due(senders + " of " + n + ": time(" + node + ")", x.time(node), node);
                }
            }
        }
    }

    private static void whenTheOneSenderIsMuted() {
        CHECKS.sentence("When the one sender is MUTED, the bus has no frame and the node is muted no more.");
        SlotCluster full = Scenes.united(4);
        full.mute(2);
        due("FULL: run(1)", full.run(1), 0);
        due("FULL: bus()", full.bus(), -1);
        due("FULL: it has sent all the same: counts(2)", full.counts(2), 1024 + 1);
        CHECKS.due("FULL: mute(2)", full.mute(2), true);
        SlotCluster start = Scenes.on(4, 0, 3);
        start.mute(0);
        due("START: run(8)", start.run(8), 0);
        due("START: bus()", start.bus(), -1);
        due("START: mode(0)", start.mode(0), 2);
        due("START: nobody heard it: patience(3)", start.patience(3), 3 * 4 + 3);
        CHECKS.due("START: mute(0)", start.mute(0), true);
    }

    private static void mutedAmidNoise() {
        CHECKS.sentence("the one sender (of two, none is muted less)");
        SlotCluster x = Scenes.on(4, 1);
        x.run(1);
        x.on(0, 0);
        x.mute(0);
        due("one of two muted: run(8)", x.run(8), 0);
        due("one of two muted: bus()", x.bus(), -2);
        CHECKS.due("mute(0)", x.mute(0), false);
        CHECKS.due("mute(1)", x.mute(1), true);
    }

    private static void inThePartsTheNodesDoNotSeeOfOneAnother() {
        CHECKS.sentence("In parts 2, 3 and 4 the nodes do not see of one another what happens in the same part");
        SlotCluster x = Scenes.startsAtOnce(4, 3);
        for (int node = 0; node < 3; node++) {
            due("each sent its own START: mode(" + node + ")", x.mode(node), 2);
            due("none heard another: counts(" + node + ")", x.counts(node), 1024);
            due("each alone: members(" + node + ")", x.members(node), 1 << node);
        }
        x.run(4);
        for (int node = 0; node < 3; node++) {
            due("each listens anew: patience(" + node + ")", x.patience(node), (8 + node) * 4 + 2);
        }
    }
}
