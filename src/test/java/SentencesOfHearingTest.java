/** The sentences of "A SLOT goes by in these parts", parts 3 and 4: who hears what, in runs worked out by hand. */
public final class SentencesOfHearingTest {
    private static final Checks CHECKS = new Checks();

    public static void main(String[] args) {
        partThreeWhoHears();
        partThreeListening();
        partThreeInside();
        partThreeTheMembers();
        partFour();
        CHECKS.end();
    }

    private static void due(String call, long got, long want) {
        CHECKS.due(call, got, want);
    }

    private static void partThreeWhoHears() {
        eachNodeThatDidNotSendInThisSlot();
        aNodeThatBeganListeningInPart2Too();
        deafHearsNoiseAndIsDeafNoMore();
    }

    private static void eachNodeThatDidNotSendInThisSlot() {
        CHECKS.sentence("For each node that did not send in this slot, is LISTEN or inside");
        SlotCluster x = Scenes.united(4);
        x.deafen(2);
        x.run(1);
        due("the sender does not hear its frame: counts(2)", x.counts(2), 1024 + 1);
        due("the sender does not hear its frame: members(2)", x.members(2), 15);
        CHECKS.due("the sender is still deaf: deafen(2)", x.deafen(2), false);
        SlotCluster frozen = Scenes.frozenAfterDeafness();
        frozen.deafen(3);
        due("run(3)", frozen.run(3), 3);
        CHECKS.due("a FROZEN node hears nothing: deafen(3)", frozen.deafen(3), false);
        due("a FROZEN node hears nothing: mode(3)", frozen.mode(3), 5);
    }

    private static void aNodeThatBeganListeningInPart2Too() {
        CHECKS.sentence("(after part 2; a node that began listening in part 2 too)");
        SlotCluster x = Scenes.on(4, 2);
        x.run(2);
        x.on(0, 0);
        x.run(3);
        x.on(1, 0);
        due("slot 10, 0 and 2 at once: run(5)", x.run(5), 0);
        due("slot 10: bus()", x.bus(), -2);
        due("slot 14, 0 and 2 begin listening: run(4)", x.run(4), 1);
        due("slot 14: bus()", x.bus(), 1);
        due("slot 14: patience(0)", x.patience(0), 8 * 4 + 2);
        due("slot 14: patience(2)", x.patience(2), 10 * 4 + 2);
        due("slot 22: run(8)", x.run(8), 1);
        due("slot 22: bus()", x.bus(), 0);
        due("slot 22: the second START that it hears: mode(2)", x.mode(2), 4);
        due("slot 22: the first since it listens: mode(1)", x.mode(1), 1);
    }

    private static void deafHearsNoiseAndIsDeafNoMore() {
        CHECKS.sentence("when the bus has a frame or noise and the node is DEAF, it hears noise and is deaf no more");
        SlotCluster x = Scenes.on(4, 0, 3);
        x.deafen(3);
        x.run(7);
        CHECKS.due("nothing: deafen(3)", x.deafen(3), false);
        due("a frame: run(1)", x.run(1), 1);
        due("a frame: patience(3)", x.patience(3), 3 * 4 + 3);
        CHECKS.due("a frame: deafen(3)", x.deafen(3), true);
        SlotCluster noise = Scenes.on(4, 1, 3);
        noise.deafen(3);
        noise.run(1);
        noise.on(0, 0);
        noise.run(8);
        due("noise: bus()", noise.bus(), -2);
        due("noise: patience(3)", noise.patience(3), 2 * 4 + 3);
        CHECKS.due("noise: deafen(3)", noise.deafen(3), true);
    }

    private static void partThreeListening() {
        listenAFullFrame();
        whenHeardIs0ItBecomes1();
        whenHeardIs1ItBecomesPassiveLikewise();
        otherwiseNothing();
    }

    private static void listenAFullFrame() {
        CHECKS.sentence("LISTEN: a FULL frame: it becomes PASSIVE, TURN the sender, TIME, MEMBERS and SKEW those of the"
            + " frame, AGREED 1, FAILED 0, ACK 0.");
        SlotCluster x = Scenes.frozenAfterDeafness();
        x.thaw(3);
        x.shift(3, 500);
        due("slot 28: run(1)", x.run(1), 1);
        due("slot 28: mode(3)", x.mode(3), 4);
        due("slot 28: time(3)", x.time(3), 11 * 8);
        due("slot 28: members(3)", x.members(3), 7);
        due("slot 28, was 1, 3 and 1: counts(3)", x.counts(3), 1024);
        due("slot 28: gap(3, 0)", x.gap(3, 0), 0);
    }

    private static void whenHeardIs0ItBecomes1() {
        CHECKS.sentence("A START frame: when HEARD is 0 it becomes 1, and WAIT 2 * N + its own number");
        for (int n = 4; n <= 6; n++) {
            SlotCluster x = Scenes.allOn(n);
            x.run(2 * n);
            due("bus()", x.bus(), 0);
            for (int node = 1; node < n; node++) {
                due("mode(" + node + ")", x.mode(node), 1);
                due("patience(" + node + ")", x.patience(node), (2 * n + node) * 4 + 3);
            }
        }
    }

    private static void whenHeardIs1ItBecomesPassiveLikewise() {
        CHECKS.sentence("when HEARD is 1: it becomes PASSIVE likewise");
        SlotCluster x = new SlotCluster(4);
        x.on(0, 0);
        x.on(1, 2);
        x.on(2, -2);
        due("slots 8 and 17: run(17)", x.run(17), 2);
        due("bus()", x.bus(), 1);
        due("mode(2)", x.mode(2), 4);
        due("time(2)", x.time(2), 1);
        due("members(2)", x.members(2), 2);
        due("counts(2)", x.counts(2), 1024);
        due("gap(2, 1)", x.gap(2, 1), 0);
        due("HEARD was 0: mode(0)", x.mode(0), 1);
    }

    private static void otherwiseNothing() {
        CHECKS.sentence("LISTEN: .. Otherwise nothing.");
        SlotCluster silence = Scenes.on(4, 3);
        silence.run(1);
        due("nothing: patience(3)", silence.patience(3), 10 * 4 + 3);
        SlotCluster noise = Scenes.on(4, 1, 3);
        noise.run(1);
        noise.on(0, 0);
        noise.run(8);
        due("noise: bus()", noise.bus(), -2);
        due("noise: mode(3)", noise.mode(3), 1);
        due("noise: patience(3)", noise.patience(3), 2 * 4 + 3);
    }

    private static void partThreeInside() {
        nothingSLeaves();
        noiseSLeavesFailedGrowsBy1();
        aStartFrameSLeavesFailedGrowsBy1();
        aFrameWhoseSenderIsNotS();
        aFrameWhoseTimeIsNotTheNodes();
        skewBelowMinus60OrAbove60();
    }

    private static void nothingSLeaves() {
        CHECKS.sentence("(a) nothing: s leaves.");
        SlotCluster x = Scenes.united(4);
        x.off(2);
        x.run(1);
        due("slot 22: members(0)", x.members(0), 11);
        due("slot 22: nothing is counted: counts(0)", x.counts(0), 2 * 1024);
        x.run(4);
        due("slot 26: is not there any more: members(0)", x.members(0), 11);
        due("slot 26: counts(0)", x.counts(0), 2 * 1024);
    }

    private static void noiseSLeavesFailedGrowsBy1() {
        CHECKS.sentence("(b) Noise: .. s leaves, FAILED grows by 1");
        SlotCluster deaf = Scenes.united(4);
        deaf.deafen(3);
        deaf.run(1);
        due("deaf: members(3)", deaf.members(3), 11);
        due("deaf: counts(3)", deaf.counts(3), 3 * 1024 + 4);
        SlotCluster x = Scenes.on(4, 2);
        x.run(2);
        x.on(1, 0);
        x.run(1);
        x.on(0, 0);
        x.deafen(0);
        x.deafen(1);
        x.run(8);
        due("slot 11: bus()", x.bus(), -2);
        due("slot 11: counts(2)", x.counts(2), 1024 + 4);
        due("slot 11: members(2)", x.members(2), 4);
    }

    private static void aStartFrameSLeavesFailedGrowsBy1() {
        CHECKS.sentence("(b) .. or a START frame: .. s leaves, FAILED grows by 1");
        SlotCluster x = Scenes.on(4, 0, 1);
        x.deafen(1);
        due("slot 9: run(9)", x.run(9), 2);
        due("slot 9: bus()", x.bus(), 1);
        due("slot 9: counts(0)", x.counts(0), 1024 + 4);
        due("slot 9: members(0)", x.members(0), 1);
        aStartFrameThatIsDueInAllElse();
    }

    /** A START has TIME 0, which a node inside that hears has only after 65535: so this is put in. */
    private static void aStartFrameThatIsDueInAllElse() {
        SlotCluster x = Scenes.on(4, 0, 1);
        x.run(7);
        Inner.put(x, 1, "mode", 4);
        Inner.put(x, 1, "turn", 3);
        Inner.put(x, 1, "time", 65535);
        Inner.put(x, 1, "members", 1);
        Inner.put(x, 1, "agreed", 1);
        x.run(1);
        due("TURN, TIME and MEMBERS as in the START: bus()", x.bus(), 0);
        due("TURN, TIME and MEMBERS as in the START: time(1)", x.time(1), 0);
        due("TURN, TIME and MEMBERS as in the START: counts(1)", x.counts(1), 1024 + 4);
        due("TURN, TIME and MEMBERS as in the START: members(1)", x.members(1), 0);
    }

    /** Nodes of the same TIME came in by the same START, so have the same TURN: the other is put in. */
    private static void aFrameWhoseSenderIsNotS() {
        CHECKS.sentence("(b) .. a frame whose sender is not s: s leaves, FAILED grows by 1");
        SlotCluster x = Scenes.united(4);
        Inner.put(x, 0, "turn", 2);
        x.run(1);
        due("bus()", x.bus(), 10);
        due("its own TIME, TURN 3: time(0)", x.time(0), 5 * 8 + 3);
        due("counts(0)", x.counts(0), 2 * 1024 + 4);
        due("members(0)", x.members(0), 7);
    }

    private static void aFrameWhoseTimeIsNotTheNodes() {
        CHECKS.sentence("(b) .. or whose TIME is not the node's: s leaves, FAILED grows by 1");
        SlotCluster x = Scenes.twoStartsTwoSlotsApart();
        due("slot 19, two STARTs: bus()", x.bus(), 3);
        due("slot 19, two STARTs: time(0)", x.time(0), 3);
        due("slot 19, two STARTs: time(1)", x.time(1), 2 * 8 + 3);
        x.mute(1);
        due("0 and 1 send and are lost: run(4)", x.run(4), 0);
        due("slot 23: members(0)", x.members(0), 1);
        due("slot 23: members(1)", x.members(1), 2);
        x.mute(0);
        due("0 sends once more and is lost: run(1)", x.run(1), 0);
        due("slot 25: run(1)", x.run(1), 1);
        due("slot 25: bus()", x.bus(), 9);
        due("slot 25: time(0)", x.time(0), 6 * 8 + 1);
        due("slot 25: time(1)", x.time(1), 8 * 8 + 1);
        due("slot 25: the frame is M without me, but late: counts(0)", x.counts(0), 1024 + 4 + 1);
        due("slot 25: members(0)", x.members(0), 1);
    }

    private static void skewBelowMinus60OrAbove60() {
        CHECKS.sentence("(b) .. or whose SKEW less the node's is below -60 or above 60: s leaves, FAILED grows by 1");
        int[] good = {-60, -59, -1, 0, 1, 59, 60};
        int[] bad = {-1000, -62, -61, 61, 62, 1000};
        for (int ticks : good) {
            frameIsShifted(ticks, 15, 3 * 1024);
        }
        for (int ticks : bad) {
            frameIsShifted(ticks, 11, 2 * 1024 + 4);
        }
    }

    private static void frameIsShifted(int ticks, int members, int counts) {
        SlotCluster x = Scenes.united(4);
        x.shift(2, ticks);
        x.run(1);
        due("frame ahead by " + ticks + ": members(0)", x.members(0), members);
        due("frame ahead by " + ticks + ": counts(0)", x.counts(0), counts);
        SlotCluster y = Scenes.united(4);
        y.shift(0, -ticks);
        y.run(1);
        due("node behind by " + ticks + ": members(0)", y.members(0), members);
        due("node behind by " + ticks + ": counts(0)", y.counts(0), counts);
    }

    private static void partThreeTheMembers() {
        sBeingJoinedToTheseForTheComparison();
        ack0FIsMGoodOtherwiseBad();
        ack1FIsM();
        ack1FIsMWithoutMe();
        ack1OtherwiseBad();
        ack2FIsMWithoutSuspect();
        ack2FIsMWithoutMe();
        ack2OtherwiseBad();
        withoutChangesNothingWhenMDoesNotHaveMe();
        withoutChangesNothingWhenMDoesNotHaveSuspect();
        theCasesAreTriedInThisOrder();
    }

    private static void sBeingJoinedToTheseForTheComparison() {
        CHECKS.sentence("compared by its MEMBERS with the node's own MEMBERS, s being joined to these for the comparison");
        SlotCluster x = Scenes.on(4, 0, 1, 2);
        x.run(21);
        x.on(3, 0);
        x.run(1);
        due("slot 22, without 3: members(0)", x.members(0), 7);
        due("slot 22: counts(0)", x.counts(0), 3 * 1024);
        x.run(1);
        due("slot 23: bus()", x.bus(), 11);
        due("slot 23: GOOD: s joins: members(0)", x.members(0), 15);
        due("slot 23: GOOD: AGREED grows by 1: counts(0)", x.counts(0), 4 * 1024);
    }

    private static void ack0FIsMGoodOtherwiseBad() {
        CHECKS.sentence("ACK 0: F is M: GOOD; otherwise BAD.");
        SlotCluster x = Scenes.united(4);
        due("slot 21: ACK 0: counts(0)", x.counts(0), 2 * 1024);
        x.deafen(3);
        x.run(1);
        due("slot 22: F is M: counts(0)", x.counts(0), 3 * 1024);
        x.run(1);
        due("slot 23: F is not M: counts(0)", x.counts(0), 3 * 1024 + 4);
        due("slot 23: BAD: s leaves: members(0)", x.members(0), 7);
    }

    private static void ack1FIsM() {
        CHECKS.sentence("ACK 1: F is M: ACK becomes 0, GOOD.");
        SlotCluster x = Scenes.united(4);
        due("slot 21: counts(1)", x.counts(1), 1024 + 1);
        x.run(1);
        due("slot 22: counts(1)", x.counts(1), 2 * 1024);
    }

    private static void ack1FIsMWithoutMe() {
        CHECKS.sentence("ACK 1: .. F is M without me: ACK becomes 2, SUSPECT s, s joins (nothing is counted).");
        SlotCluster x = Scenes.on(4, 0, 1, 2);
        x.run(20);
        x.on(3, 0);
        x.run(1);
        x.mute(2);
        x.run(1);
        due("slot 22: counts(2)", x.counts(2), 1024 + 1);
        due("slot 22: members(2)", x.members(2), 7);
        x.run(1);
        due("slot 23: bus()", x.bus(), 11);
        due("slot 23: the frame's MEMBERS: members(3)", x.members(3), 11);
        due("slot 23: counts(2)", x.counts(2), 1024 + 2);
        due("slot 23: members(2)", x.members(2), 15);
        due("slot 23: SUSPECT", Inner.get(x, 2, "suspect"), 3);
    }

    private static void ack1OtherwiseBad() {
        CHECKS.sentence("ACK 1: .. Otherwise BAD.");
        SlotCluster x = Scenes.united(4);
        x.deafen(3);
        x.run(2);
        due("slot 23: counts(3)", x.counts(3), 1024 + 1);
        due("slot 23: members(3)", x.members(3), 11);
        x.run(1);
        due("slot 24: 7 is neither 11 nor 3: counts(3)", x.counts(3), 1024 + 4 + 1);
        due("slot 24: members(3)", x.members(3), 10);
    }

    private static void ack2FIsMWithoutSuspect() {
        CHECKS.sentence("ACK 2: F is M without SUSPECT: SUSPECT leaves, FAILED grows by 1, ACK becomes 0, GOOD.");
        SlotCluster x = Scenes.united(4);
        x.deafen(3);
        x.run(2);
        due("slot 23: counts(2)", x.counts(2), 1024 + 2);
        due("slot 23: members(2)", x.members(2), 15);
        x.run(1);
        due("slot 24: counts(2)", x.counts(2), 2 * 1024 + 4);
        due("slot 24: members(2)", x.members(2), 7);
        due("slot 24: mode(2)", x.mode(2), 3);
    }

    private static void ack2FIsMWithoutMe() {
        CHECKS.sentence("ACK 2: .. F is M without me: me leaves, the node becomes PASSIVE, AGREED grows by 1, ACK becomes 0,"
            + " GOOD.");
        SlotCluster x = Scenes.united(4);
        x.mute(2);
        x.run(2);
        due("slot 23: counts(2)", x.counts(2), 1024 + 2);
        x.run(1);
        due("slot 24: counts(2)", x.counts(2), 3 * 1024);
        due("slot 24: members(2)", x.members(2), 11);
        due("slot 24: mode(2)", x.mode(2), 4);
    }

    private static void ack2OtherwiseBad() {
        CHECKS.sentence("ACK 2: .. Otherwise BAD.");
        SlotCluster x = Scenes.united(4);
        x.mute(2);
        x.run(1);
        x.deafen(0);
        x.run(1);
        due("slot 23: counts(2)", x.counts(2), 1024 + 2);
        x.run(1);
        due("slot 24: the frame's MEMBERS: members(0)", x.members(0), 3);
        due("slot 24: 3 is neither 7 nor 11: counts(2)", x.counts(2), 1024 + 4 + 2);
        due("slot 24: members(2)", x.members(2), 14);
        x.run(1);
        due("slot 25: 10 is 14 without me: counts(2)", x.counts(2), 3 * 1024 + 4);
        due("slot 25: members(2)", x.members(2), 10);
        due("slot 25: mode(2)", x.mode(2), 4);
    }

    /** With ACK 1 or 2, M always has me and SUSPECT, whatever is called: so their absence is put in. */
    private static void withoutChangesNothingWhenMDoesNotHaveMe() {
        CHECKS.sentence("(When M does not have me .., \"without\" changes nothing)");
        SlotCluster justSent = Scenes.united(4);
        justSent.run(1);
        Inner.put(justSent, 2, "members", 11);
        justSent.run(1);
        due("ACK 1: 15 is neither 11 nor 11 without me: counts(2)", justSent.counts(2), 1024 + 4 + 1);
        due("ACK 1: members(2)", justSent.members(2), 3);
        SlotCluster inDoubt = Scenes.united(4);
        inDoubt.mute(2);
        inDoubt.run(2);
        Inner.put(inDoubt, 2, "members", 11);
        inDoubt.run(1);
        due("ACK 2: 11 is 11 without me: counts(2)", inDoubt.counts(2), 3 * 1024);
        due("ACK 2: members(2)", inDoubt.members(2), 11);
        due("ACK 2: mode(2)", inDoubt.mode(2), 4);
    }

    private static void withoutChangesNothingWhenMDoesNotHaveSuspect() {
        CHECKS.sentence("(When M does not have .. SUSPECT, \"without\" changes nothing)");
        SlotCluster x = Scenes.united(4);
        x.deafen(3);
        x.run(2);
        due("SUSPECT", Inner.get(x, 2, "suspect"), 3);
        Inner.put(x, 2, "members", 7);
        x.run(1);
        due("7 is 7 without SUSPECT: counts(2)", x.counts(2), 2 * 1024 + 4);
        due("members(2)", x.members(2), 7);
        due("mode(2)", x.mode(2), 3);
    }

    private static void theCasesAreTriedInThisOrder() {
        CHECKS.sentence("the cases are tried in this order");
        SlotCluster inDoubt = Scenes.united(4);
        inDoubt.deafen(3);
        inDoubt.run(2);
        Inner.put(inDoubt, 0, "members", 3);
        Inner.put(inDoubt, 2, "members", 3);
        inDoubt.run(1);
        due("ACK 2: 3 is M without SUSPECT and M without me: counts(2)", inDoubt.counts(2), 2 * 1024 + 4);
        due("ACK 2: mode(2)", inDoubt.mode(2), 3);
        SlotCluster justSent = Scenes.united(4);
        justSent.run(1);
        Inner.put(justSent, 2, "members", 11);
        Inner.put(justSent, 3, "members", 11);
        justSent.run(1);
        due("ACK 1: 11 is M and M without me: counts(2)", justSent.counts(2), 2 * 1024);
    }

    private static void partFour() {
        eachNodeWhoseTurnIsNMinus1AndThatHasFourDeviations();
        eachNodeInside();
        theLeastAndTheGreatestAreLeftOutOneEach();
        dividedBy2AndCutTowards0();
        theDeviationsStay();
    }

    private static void eachNodeWhoseTurnIsNMinus1AndThatHasFourDeviations() {
        CHECKS.sentence("For each node inside whose TURN is N - 1 and that has four deviations");
        SlotCluster x = Scenes.on(4, 1, 2, 3);
        x.run(23);
        x.on(0, 0);
        x.run(1);
        due("slot 24, TURN 3: mode(0)", x.mode(0), 4);
        x.shift(0, 20);
        x.run(4);
        due("slot 28, TURN 3, three of -20: gap(0, 1)", x.gap(0, 1), 20);
        x.run(3);
        due("slot 31, TURN 2, four of -20: gap(0, 1)", x.gap(0, 1), 20);
        x.run(1);
        due("slot 32, TURN 3, four of -20: gap(0, 1)", x.gap(0, 1), 0);
    }

    private static void eachNodeInside() {
        CHECKS.sentence("For each node inside (a FROZEN one is not)");
        SlotCluster x = Scenes.united(4);
        x.shift(3, 30);
        x.run(6);
        due("slot 27, four of -30 for 3, 30 30 0 0 for the others: gap(3, 0)", x.gap(3, 0), -15);
        x.deafen(3);
        x.run(1);
        x.deafen(3);
        x.run(2);
        for (int slot = 31; slot <= 35; slot++) {
            x.run(1);
            due("slot " + slot + ": mode(3)", x.mode(3), 5);
            due("slot " + slot + ", TURN 3 and still four of -30: gap(3, 0)", x.gap(3, 0), -15);
        }
    }

    private static void theLeastAndTheGreatestAreLeftOutOneEach() {
        CHECKS.sentence("the least and the greatest of them are left out (one each)");
        SlotCluster x = Scenes.united(4);
        x.shift(2, 60);
        x.run(5);
        due("slot 26: gap(2, 0)", x.gap(2, 0), 60);
        x.run(1);
        due("slot 27, of 60 0 0 60: gap(3, 0)", x.gap(3, 0), 30);
        due("slot 27, of -60 -60 -60 -60: gap(2, 0)", x.gap(2, 0), 0);
        due("slot 27, both of 0 0 60 0: gap(1, 0)", x.gap(1, 0), 0);
    }

    private static void dividedBy2AndCutTowards0() {
        CHECKS.sentence("the sum of the other two, divided by 2 and cut towards 0, is added to SKEW");
        int[][] sumAndHalf = {{-60, -30}, {-5, -2}, {-3, -1}, {-2, -1}, {-1, 0}, {0, 0}, {1, 0}, {2, 1}, {3, 1}, {5, 2}, {59, 29}};
        for (int[] row : sumAndHalf) {
            SlotCluster x = Scenes.united(4);
            x.shift(2, row[0]);
            x.run(6);
            due("slot 27, of 0 0 and twice " + row[0] + ": gap(3, 0)", x.gap(3, 0), row[1]);
            due("slot 27: gap(2, 0)", x.gap(2, 0), 0);
        }
    }

    private static void theDeviationsStay() {
        CHECKS.sentence("(The deviations stay.)");
        SlotCluster x = Scenes.united(4);
        x.shift(3, 20);
        x.run(6);
        due("slot 27, four of -20 for 3, 20 20 0 0 for the others: gap(3, 0)", x.gap(3, 0), -10);
        x.off(0);
        x.off(1);
        x.run(4);
        due("slot 31, node 2 sent alone: 10 -20 -20 -20 for 3: gap(3, 2)", x.gap(3, 2), -30);
    }
}
